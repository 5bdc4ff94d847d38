section
-- ===== PART A: goes FIRST, ahead of the names: the tables' words, and 'selects' of the private methods out of them =====
/-- a private method of a class that the tables say can be made, by its rows of tables_1 -/
def lw_okq (q : MethodName × Nat) : Prop := (q.1.cls ≠ "java/lang/invoke/MethodHandle" ∧ q.1.cls ≠ "java/lang/invoke/VarHandle") ∧ Cond.instantiable q.1.cls q.2 ∈ tables_1 ∧ Cond.privateMethod q.1 ∈ tables_1 ∧ Cond.instanceMethod q.1 ∈ tables_1
theorem lw_p0 : lw_okq (⟨"LevelRows$Levels", "valueOf", "(IJ)I"⟩, 8) := ⟨⟨by decide +kernel, by decide +kernel⟩, List.mem_of_getElem? (i := 24) (by decide +kernel), List.mem_of_getElem? (i := 141) (by decide +kernel), List.mem_of_getElem? (i := 142) (by decide +kernel)⟩
theorem lw_p1 : lw_okq (⟨"LevelRows$Needs", "keepAll", "()V"⟩, 10) := ⟨⟨by decide +kernel, by decide +kernel⟩, List.mem_of_getElem? (i := 73) (by decide +kernel), List.mem_of_getElem? (i := 156) (by decide +kernel), List.mem_of_getElem? (i := 157) (by decide +kernel)⟩
theorem lw_p2 : lw_okq (⟨"LevelRows$Needs", "canKeptBeSolved", "()Z"⟩, 10) := ⟨⟨by decide +kernel, by decide +kernel⟩, List.mem_of_getElem? (i := 73) (by decide +kernel), List.mem_of_getElem? (i := 160) (by decide +kernel), List.mem_of_getElem? (i := 161) (by decide +kernel)⟩
theorem lw_p3 : lw_okq (⟨"LevelRows$Needs", "raiseNumbers", "()Z"⟩, 10) := ⟨⟨by decide +kernel, by decide +kernel⟩, List.mem_of_getElem? (i := 73) (by decide +kernel), List.mem_of_getElem? (i := 167) (by decide +kernel), List.mem_of_getElem? (i := 168) (by decide +kernel)⟩
theorem lw_p4 : lw_okq (⟨"LevelRows$Needs", "isUnknown", "(I)Z"⟩, 10) := ⟨⟨by decide +kernel, by decide +kernel⟩, List.mem_of_getElem? (i := 73) (by decide +kernel), List.mem_of_getElem? (i := 179) (by decide +kernel), List.mem_of_getElem? (i := 180) (by decide +kernel)⟩
theorem lw_p5 : lw_okq (⟨"LevelRows$Needs", "keepClashOnly", "()V"⟩, 10) := ⟨⟨by decide +kernel, by decide +kernel⟩, List.mem_of_getElem? (i := 73) (by decide +kernel), List.mem_of_getElem? (i := 192) (by decide +kernel), List.mem_of_getElem? (i := 193) (by decide +kernel)⟩
theorem lw_p6 : lw_okq (⟨"LevelRows$Needs", "forget", "()V"⟩, 10) := ⟨⟨by decide +kernel, by decide +kernel⟩, List.mem_of_getElem? (i := 73) (by decide +kernel), List.mem_of_getElem? (i := 204) (by decide +kernel), List.mem_of_getElem? (i := 205) (by decide +kernel)⟩
theorem lw_p7 : lw_okq (⟨"LevelRows$Levels", "find", "(III)I"⟩, 8) := ⟨⟨by decide +kernel, by decide +kernel⟩, List.mem_of_getElem? (i := 24) (by decide +kernel), List.mem_of_getElem? (i := 236) (by decide +kernel), List.mem_of_getElem? (i := 237) (by decide +kernel)⟩
theorem lw_p8 : lw_okq (⟨"LevelRows$Levels", "checkNew", "(II)V"⟩, 8) := ⟨⟨by decide +kernel, by decide +kernel⟩, List.mem_of_getElem? (i := 24) (by decide +kernel), List.mem_of_getElem? (i := 240) (by decide +kernel), List.mem_of_getElem? (i := 241) (by decide +kernel)⟩
theorem lw_p9 : lw_okq (⟨"java/lang/Throwable", "fillInStackTrace", "(I)Ljava/lang/Throwable;"⟩, 6) := ⟨⟨by decide +kernel, by decide +kernel⟩, List.mem_of_getElem? (i := 282) (by decide +kernel), List.mem_of_getElem? (i := 280) (by decide +kernel), List.mem_of_getElem? (i := 281) (by decide +kernel)⟩
theorem lw_p10 : lw_okq (⟨"LevelRows$Levels", "nextsOf", "(I)I"⟩, 8) := ⟨⟨by decide +kernel, by decide +kernel⟩, List.mem_of_getElem? (i := 24) (by decide +kernel), List.mem_of_getElem? (i := 328) (by decide +kernel), List.mem_of_getElem? (i := 329) (by decide +kernel)⟩
theorem lw_p11 : lw_okq (⟨"LevelRows$Levels", "usesOf", "(I)I"⟩, 8) := ⟨⟨by decide +kernel, by decide +kernel⟩, List.mem_of_getElem? (i := 24) (by decide +kernel), List.mem_of_getElem? (i := 332) (by decide +kernel), List.mem_of_getElem? (i := 333) (by decide +kernel)⟩
theorem lw_p12 : lw_okq (⟨"LevelRows$Levels", "partsOf", "(II)J"⟩, 8) := ⟨⟨by decide +kernel, by decide +kernel⟩, List.mem_of_getElem? (i := 24) (by decide +kernel), List.mem_of_getElem? (i := 336) (by decide +kernel), List.mem_of_getElem? (i := 337) (by decide +kernel)⟩
theorem lw_p13 : lw_okq (⟨"LevelRows", "checkLevel", "(I)V"⟩, 3) := ⟨⟨by decide +kernel, by decide +kernel⟩, List.mem_of_getElem? (i := 16) (by decide +kernel), List.mem_of_getElem? (i := 397) (by decide +kernel), List.mem_of_getElem? (i := 398) (by decide +kernel)⟩
theorem lw_p14 : lw_okq (⟨"LevelRows$Replacement", "resultAhead", "(III)I"⟩, 3) := ⟨⟨by decide +kernel, by decide +kernel⟩, List.mem_of_getElem? (i := 57) (by decide +kernel), List.mem_of_getElem? (i := 420) (by decide +kernel), List.mem_of_getElem? (i := 421) (by decide +kernel)⟩
theorem lw_p15 : lw_okq (⟨"LevelRows$Replacement", "missingPart", "(I)I"⟩, 3) := ⟨⟨by decide +kernel, by decide +kernel⟩, List.mem_of_getElem? (i := 57) (by decide +kernel), List.mem_of_getElem? (i := 432) (by decide +kernel), List.mem_of_getElem? (i := 433) (by decide +kernel)⟩
def lw_privs_1 : List (MethodName × Nat) := [(⟨"LevelRows$Levels", "valueOf", "(IJ)I"⟩, 8), (⟨"LevelRows$Needs", "keepAll", "()V"⟩, 10), (⟨"LevelRows$Needs", "canKeptBeSolved", "()Z"⟩, 10), (⟨"LevelRows$Needs", "raiseNumbers", "()Z"⟩, 10), (⟨"LevelRows$Needs", "isUnknown", "(I)Z"⟩, 10), (⟨"LevelRows$Needs", "keepClashOnly", "()V"⟩, 10), (⟨"LevelRows$Needs", "forget", "()V"⟩, 10), (⟨"LevelRows$Levels", "find", "(III)I"⟩, 8), (⟨"LevelRows$Levels", "checkNew", "(II)V"⟩, 8), (⟨"java/lang/Throwable", "fillInStackTrace", "(I)Ljava/lang/Throwable;"⟩, 6), (⟨"LevelRows$Levels", "nextsOf", "(I)I"⟩, 8), (⟨"LevelRows$Levels", "usesOf", "(I)I"⟩, 8), (⟨"LevelRows$Levels", "partsOf", "(II)J"⟩, 8), (⟨"LevelRows", "checkLevel", "(I)V"⟩, 3), (⟨"LevelRows$Replacement", "resultAhead", "(III)I"⟩, 3), (⟨"LevelRows$Replacement", "missingPart", "(I)I"⟩, 3)]
theorem lw_r1 : ∀ q ∈ lw_privs_1, lw_okq q := List.forall_mem_cons.mpr ⟨lw_p0, List.forall_mem_cons.mpr ⟨lw_p1, List.forall_mem_cons.mpr ⟨lw_p2, List.forall_mem_cons.mpr ⟨lw_p3, List.forall_mem_cons.mpr ⟨lw_p4, List.forall_mem_cons.mpr ⟨lw_p5, List.forall_mem_cons.mpr ⟨lw_p6, List.forall_mem_cons.mpr ⟨lw_p7, List.forall_mem_cons.mpr ⟨lw_p8, List.forall_mem_cons.mpr ⟨lw_p9, List.forall_mem_cons.mpr ⟨lw_p10, List.forall_mem_cons.mpr ⟨lw_p11, List.forall_mem_cons.mpr ⟨lw_p12, List.forall_mem_cons.mpr ⟨lw_p13, List.forall_mem_cons.mpr ⟨lw_p14, List.forall_mem_cons.mpr ⟨lw_p15, fun _ h => absurd h List.not_mem_nil⟩⟩⟩⟩⟩⟩⟩⟩⟩⟩⟩⟩⟩⟩⟩⟩
theorem lw_p16 : lw_okq (⟨"LevelRows$Replacement", "remade", "(I)I"⟩, 3) := ⟨⟨by decide +kernel, by decide +kernel⟩, List.mem_of_getElem? (i := 57) (by decide +kernel), List.mem_of_getElem? (i := 437) (by decide +kernel), List.mem_of_getElem? (i := 438) (by decide +kernel)⟩
theorem lw_p17 : lw_okq (⟨"LevelRowsModel", "made", "(IIII)I"⟩, 17) := ⟨⟨by decide +kernel, by decide +kernel⟩, List.mem_of_getElem? (i := 543) (by decide +kernel), List.mem_of_getElem? (i := 609) (by decide +kernel), List.mem_of_getElem? (i := 610) (by decide +kernel)⟩
theorem lw_p18 : lw_okq (⟨"LevelRowsModel", "make", "(III)I"⟩, 17) := ⟨⟨by decide +kernel, by decide +kernel⟩, List.mem_of_getElem? (i := 543) (by decide +kernel), List.mem_of_getElem? (i := 613) (by decide +kernel), List.mem_of_getElem? (i := 614) (by decide +kernel)⟩
theorem lw_p19 : lw_okq (⟨"LevelRowsModel", "refuses", "(I)Z"⟩, 17) := ⟨⟨by decide +kernel, by decide +kernel⟩, List.mem_of_getElem? (i := 543) (by decide +kernel), List.mem_of_getElem? (i := 621) (by decide +kernel), List.mem_of_getElem? (i := 622) (by decide +kernel)⟩
theorem lw_p20 : lw_okq (⟨"LevelRowsModel", "isLevel", "(I)Z"⟩, 17) := ⟨⟨by decide +kernel, by decide +kernel⟩, List.mem_of_getElem? (i := 543) (by decide +kernel), List.mem_of_getElem? (i := 629) (by decide +kernel), List.mem_of_getElem? (i := 630) (by decide +kernel)⟩
theorem lw_p21 : lw_okq (⟨"LevelRowsModel", "changed", "(IIIII)I"⟩, 17) := ⟨⟨by decide +kernel, by decide +kernel⟩, List.mem_of_getElem? (i := 543) (by decide +kernel), List.mem_of_getElem? (i := 645) (by decide +kernel), List.mem_of_getElem? (i := 646) (by decide +kernel)⟩
theorem lw_p22 : lw_okq (⟨"LevelRowsModel", "reckon", "()V"⟩, 17) := ⟨⟨by decide +kernel, by decide +kernel⟩, List.mem_of_getElem? (i := 543) (by decide +kernel), List.mem_of_getElem? (i := 654) (by decide +kernel), List.mem_of_getElem? (i := 655) (by decide +kernel)⟩
theorem lw_p23 : lw_okq (⟨"LevelRowsModel", "growth", "(III)I"⟩, 17) := ⟨⟨by decide +kernel, by decide +kernel⟩, List.mem_of_getElem? (i := 543) (by decide +kernel), List.mem_of_getElem? (i := 662) (by decide +kernel), List.mem_of_getElem? (i := 663) (by decide +kernel)⟩
theorem lw_p24 : lw_okq (⟨"LevelRowsModel", "rest", "(III)V"⟩, 17) := ⟨⟨by decide +kernel, by decide +kernel⟩, List.mem_of_getElem? (i := 543) (by decide +kernel), List.mem_of_getElem? (i := 666) (by decide +kernel), List.mem_of_getElem? (i := 667) (by decide +kernel)⟩
theorem lw_p25 : lw_okq (⟨"LevelRowsModel", "regionOf", "(II)I"⟩, 17) := ⟨⟨by decide +kernel, by decide +kernel⟩, List.mem_of_getElem? (i := 543) (by decide +kernel), List.mem_of_getElem? (i := 674) (by decide +kernel), List.mem_of_getElem? (i := 675) (by decide +kernel)⟩
theorem lw_p26 : lw_okq (⟨"LevelRowsModel", "goesOn", "(IIII)Z"⟩, 17) := ⟨⟨by decide +kernel, by decide +kernel⟩, List.mem_of_getElem? (i := 543) (by decide +kernel), List.mem_of_getElem? (i := 678) (by decide +kernel), List.mem_of_getElem? (i := 679) (by decide +kernel)⟩
theorem lw_p27 : lw_okq (⟨"LevelRowsModel", "isSameLevel", "(II)Z"⟩, 17) := ⟨⟨by decide +kernel, by decide +kernel⟩, List.mem_of_getElem? (i := 543) (by decide +kernel), List.mem_of_getElem? (i := 686) (by decide +kernel), List.mem_of_getElem? (i := 687) (by decide +kernel)⟩
theorem lw_p28 : lw_okq (⟨"LevelRowsModel", "isSide", "(I)Z"⟩, 17) := ⟨⟨by decide +kernel, by decide +kernel⟩, List.mem_of_getElem? (i := 543) (by decide +kernel), List.mem_of_getElem? (i := 707) (by decide +kernel), List.mem_of_getElem? (i := 708) (by decide +kernel)⟩
theorem lw_p29 : lw_okq (⟨"LevelRowsModel", "solvesAll", "()Z"⟩, 17) := ⟨⟨by decide +kernel, by decide +kernel⟩, List.mem_of_getElem? (i := 543) (by decide +kernel), List.mem_of_getElem? (i := 715) (by decide +kernel), List.mem_of_getElem? (i := 716) (by decide +kernel)⟩
theorem lw_p30 : lw_okq (⟨"LevelRowsModel", "solves", "()Z"⟩, 17) := ⟨⟨by decide +kernel, by decide +kernel⟩, List.mem_of_getElem? (i := 543) (by decide +kernel), List.mem_of_getElem? (i := 719) (by decide +kernel), List.mem_of_getElem? (i := 720) (by decide +kernel)⟩
def lw_privs_2 : List (MethodName × Nat) := [(⟨"LevelRows$Replacement", "remade", "(I)I"⟩, 3), (⟨"LevelRowsModel", "made", "(IIII)I"⟩, 17), (⟨"LevelRowsModel", "make", "(III)I"⟩, 17), (⟨"LevelRowsModel", "refuses", "(I)Z"⟩, 17), (⟨"LevelRowsModel", "isLevel", "(I)Z"⟩, 17), (⟨"LevelRowsModel", "changed", "(IIIII)I"⟩, 17), (⟨"LevelRowsModel", "reckon", "()V"⟩, 17), (⟨"LevelRowsModel", "growth", "(III)I"⟩, 17), (⟨"LevelRowsModel", "rest", "(III)V"⟩, 17), (⟨"LevelRowsModel", "regionOf", "(II)I"⟩, 17), (⟨"LevelRowsModel", "goesOn", "(IIII)Z"⟩, 17), (⟨"LevelRowsModel", "isSameLevel", "(II)Z"⟩, 17), (⟨"LevelRowsModel", "isSide", "(I)Z"⟩, 17), (⟨"LevelRowsModel", "solvesAll", "()Z"⟩, 17), (⟨"LevelRowsModel", "solves", "()Z"⟩, 17)]
theorem lw_r2 : ∀ q ∈ lw_privs_2, lw_okq q := List.forall_mem_cons.mpr ⟨lw_p16, List.forall_mem_cons.mpr ⟨lw_p17, List.forall_mem_cons.mpr ⟨lw_p18, List.forall_mem_cons.mpr ⟨lw_p19, List.forall_mem_cons.mpr ⟨lw_p20, List.forall_mem_cons.mpr ⟨lw_p21, List.forall_mem_cons.mpr ⟨lw_p22, List.forall_mem_cons.mpr ⟨lw_p23, List.forall_mem_cons.mpr ⟨lw_p24, List.forall_mem_cons.mpr ⟨lw_p25, List.forall_mem_cons.mpr ⟨lw_p26, List.forall_mem_cons.mpr ⟨lw_p27, List.forall_mem_cons.mpr ⟨lw_p28, List.forall_mem_cons.mpr ⟨lw_p29, List.forall_mem_cons.mpr ⟨lw_p30, fun _ h => absurd h List.not_mem_nil⟩⟩⟩⟩⟩⟩⟩⟩⟩⟩⟩⟩⟩⟩⟩
def lw_privs : List (MethodName × Nat) := lw_privs_1 ++ (lw_privs_2)
def lw_tbl : List Cond := k2_sels lw_privs ++ tables_1
theorem lw_privs_ok : ∀ q ∈ lw_privs, lw_okq q := by
  show ∀ q ∈ lw_privs_1 ++ (lw_privs_2), lw_okq q
  exact List.forall_mem_append.mpr ⟨lw_r1, lw_r2⟩
-- ===== end of PART A =====
/-- the tables' words that a callee may lean on -/
def tb : List Cond := lw_tbl.filter goodWord
theorem tb_of {w : Cond} (h : w ∈ lw_tbl) (hg : goodWord w = true) : w ∈ tb := List.mem_filter.mpr ⟨h, hg⟩
theorem tb_t {w : Cond} (h : w ∈ tables_1) (hg : goodWord w = true) : w ∈ tb := tb_of (List.mem_append_right _ h) hg
theorem tb_s {w : Cond} (h : w ∈ k2_sels lw_privs) (hg : goodWord w = true) : w ∈ tb := tb_of (List.mem_append_left _ h) hg
theorem tb_good {w : Cond} (h : w ∈ tb) : w ∈ tb ∧ ((w.onTables && w.keeps) = true ∨ ∃ ty, w = .arrayClass ty) := ⟨h, good_of_word (List.mem_filter.mp h).2⟩
theorem tb_cons {c : Cond} (hc : c ∈ tb) : GoodIn tb (c :: tb) := fun w hw => by
  rcases List.mem_cons.mp hw with h | h
  · exact tb_good (h ▸ hc)
  · exact tb_good h
theorem gV {own C : String} {idx : Nat} {y : MethodName} {c : Cond} (h1 : Cond.methodLink own idx y ∈ tb) (h2 : Cond.instanceMethod y ∈ tb) (h3 : Cond.selects C y y ∈ tb) (h4 : Cond.initialized C ∈ tb) (hc : c ∈ tb) : GoodIn tb (wsV own idx C y (c :: tb)) := fun w hw => by
  rcases List.mem_append.mp hw with h | h
  · simp only [List.mem_cons, List.not_mem_nil, or_false] at h
    rcases h with h | h | h | h
    · exact tb_good (h ▸ h1)
    · exact tb_good (h ▸ h2)
    · exact tb_good (h ▸ h3)
    · exact tb_good (h ▸ h4)
  · exact tb_cons hc w h
theorem gS {own : String} {idx : Nat} {y : MethodName} {c : Cond} (h1 : Cond.methodLink own idx y ∈ tb) (h2 : Cond.static y ∈ tb) (h4 : Cond.initialized y.cls ∈ tb) (hc : c ∈ tb) : GoodIn tb (va_wsS own idx y (c :: tb)) := fun w hw => by
  rcases List.mem_append.mp hw with h | h
  · simp only [List.mem_cons, List.not_mem_nil, or_false] at h
    rcases h with h | h | h
    · exact tb_good (h ▸ h1)
    · exact tb_good (h ▸ h2)
    · exact tb_good (h ▸ h4)
  · exact tb_cons hc w h
theorem gL {own : String} {idx : Nat} {y : MethodName} {c : Cond} (h1 : Cond.methodLink own idx y ∈ tb) (h2 : Cond.static y ∈ tb) (h4 : Cond.initialized own ∈ tb) (hc : c ∈ tb) : GoodIn tb (wsS own idx y (c :: tb)) := fun w hw => by
  rcases List.mem_append.mp hw with h | h
  · simp only [List.mem_cons, List.not_mem_nil, or_false] at h
    rcases h with h | h | h
    · exact tb_good (h ▸ h1)
    · exact tb_good (h ▸ h2)
    · exact tb_good (h ▸ h4)
  · exact tb_cons hc w h
end
section
/-! A METHOD THAT RETURNS OR THROWS: contracts, calls and catches over the kit's W. -/
section WX1
variable {p : Program} {l : Launch} {e : Env} {R : Room} {s : State} {m : MethodId} {args : Array Value} {below : List Frame} {meth : Method} {c : Code} {T : State} {H : Heap} {locs : List Loc} {cells slots : Nat} {Q Q2 : State → Prop}
/-- what moved: the tables are warmer, the slots L, at most k new cells of n slots -/
def wx_FE (first t : State) (L : List Loc) (k n : Nat) : Prop := first.WarmedH t.vm ∧ first.sameButNew ({ t with vm := first.vm } : State) L k n
/-- cells that come: none with a return, the exception's own with a throw -/
def wx_c : Outcome → Nat
  | .returned _ => 0
  | .threw _ => 1
def wx_Met (l : Launch) (y : MethodName) (ws : List Cond) (rm : Room) (Pc : Array Value → State → Prop) (Qc : Array Value → State → Outcome → State → Prop) (free : Addr → Prop) : Prop :=
  MetFree l y (headSpec ws rm) Pc (fun _ _ _ _ _ => True) (fun a st o t => Qc a st o t ∧ ∃ L, wx_FE st t L (wx_c o) (6 * wx_c o) ∧ ∀ q ∈ L, free q.base)
def wx_MQ (below : List Frame) (Qc : Array Value → State → Outcome → State → Prop) (a : Array Value) (s : State) (free : Addr → Prop) : State → Prop := fun t =>
  ∃ o, t.status = .running ∧ Ended t below o ∧ Qc a s o t ∧ ∃ L, wx_FE s t L (wx_c o) (6 * wx_c o) ∧ ∀ q ∈ L, free q.base
theorem wx_mono {g : JFrame} (h : ∀ t, Q t → Q2 t) (k : W p l e R s m args below meth c H locs cells slots Q g) : W p l e R s m args below meth c H locs cells slots Q2 g := by
  intro T hT X
  obtain ⟨t, a, b⟩ := k T hT X
  exact ⟨t, a, h t b⟩
theorem wx_ret {Qc : Array Value → State → Outcome → State → Prop} {free : Addr → Prop} {g : JFrame} (k : W p l e R s m args below meth c H locs cells slots (MQ below Qc args s 0 0 free) g) : W p l e R s m args below meth c H locs cells slots (wx_MQ below Qc args s free) g :=
  wx_mono (fun t h => by
    obtain ⟨o, h1, h2, h3, L, ⟨⟨v, rfl⟩, h4⟩, h5⟩ := h
    exact ⟨_, h1, h2, h3, L, h4, h5⟩) k
theorem wx_toMet {y : MethodName} {ws : List Cond} {rm : Room} {Pc : Array Value → State → Prop} {Qc : Array Value → State → Outcome → State → Prop} {free : Addr → Prop} (h : wx_Met l y ws rm Pc Qc free) (hr : ∀ a st o t, Pc a st → Qc a st o t → ∃ v, o = .returned v) : Met l y ws rm Pc Qc 0 0 free := by
  intro p e h1 h2 h3 s m args below hf hap hP hK
  obtain ⟨n, o, a1, a2, a3, a4, L, a5, a6⟩ := h p e h1 h2 h3 s m args below hf hap hP hK
  obtain ⟨v, rfl⟩ := hr _ _ _ _ hP a4
  exact ⟨n, _, a1, a2, a3, a4, L, ⟨⟨v, rfl⟩, a5.1, a5.2⟩, a6⟩
theorem wx_weaken {y : MethodName} {ws : List Cond} {rm : Room} {Pc Pc' : Array Value → State → Prop} {Qc Qc' : Array Value → State → Outcome → State → Prop} {free : Addr → Prop} (h : wx_Met l y ws rm Pc Qc free) (hp : ∀ a st, Pc' a st → Pc a st) (hq : ∀ a st o t, Pc' a st → Qc a st o t → Qc' a st o t) : wx_Met l y ws rm Pc' Qc' free := by
  intro p e h1 h2 h3 s m args below hf hap hP hK
  obtain ⟨n, o, a1, a2, a3, a4, L, a5, a6⟩ := h p e h1 h2 h3 s m args below hf hap (hp _ _ hP) hK
  exact ⟨n, o, a1, a2, a3, hq _ _ _ _ hP a4, L, a5, a6⟩
/-- the body of a method without handlers -/
theorem wx_ofW {y : MethodName} {ws ws' : List Cond} {rm : Room} {Pc : Array Value → State → Prop} {Qc : Array Value → State → Outcome → State → Prop} {free : Addr → Prop} {cc : ByteArray} {maxL : Nat} {ret : Option FieldType}
    (hy : plainName y.cls = true) (hw : ws = Cond.code y cc maxL ret :: ws')
    (body : ∀ p e s m args below meth c s₁, BodyLoose p l y (headSpec ws rm) cc maxL ret e s m args below meth c s₁ → c.maxLocals = maxL → c.exceptionTable.toList = [] → Pc args s →
      W p l e (headSpec ws rm).room s m args below meth c s.heap [] 0 0 (wx_MQ below Qc args s free) (entryFrame m args maxL)) : wx_Met l y ws rm Pc Qc free := by
  refine MetFree.of_bodyS (code := cc) (maxLocals := maxL) (ret := ret) hy ?_ ?_
  · intro args s m h hn
    obtain ⟨meth, c, h1, h2, h3, h4, h5, h6, -, -⟩ := Cond.code_spec hn (atoms_spec (ws := ws) h _ (by rw [hw]; exact List.mem_cons_self))
    exact ⟨meth, c, h1, h2, h3, h4, h5, h6⟩
  · intro p e s m args below meth c s₁ B hml hP _
    have hh0 : s₁.heap = s.heap := by rw [B.state]; rfl
    have hno : c.exceptionTable.isEmpty = true := B.noHandlers (atoms_spec (ws := ws) B.pre _ (by rw [hw]; exact List.mem_cons_self))
    have hnl : c.exceptionTable.toList = [] := by rw [Array.isEmpty_iff.mp hno]
    obtain ⟨t, a1, o, b1, b2, b3⟩ := body p e s m args below meth c s₁ B hml hnl hP s₁ hh0 (Stand.of_body B)
    exact ⟨t, o, a1, b1, b2, b3⟩
/-- the body of a method with handlers: it returns -/
theorem wx_ofWH {y : MethodName} {ws ws' : List Cond} {rm : Room} {Pc : Array Value → State → Prop} {Qc : Array Value → State → Outcome → State → Prop} {mc ms : Nat} {free : Addr → Prop} {cc : ByteArray} {maxL : Nat} {ret : Option FieldType} {hs : List (Nat × Nat × Nat × Nat)}
    (hy : plainName y.cls = true) (hw : ws = Cond.codeWith y cc maxL ret hs :: ws')
    (body : ∀ p e s m args below meth c s₁, BodyLoose p l y (headSpec ws rm) cc maxL ret e s m args below meth c s₁ → c.maxLocals = maxL → c.exceptionTable.toList = tableOf hs → Pc args s →
      W p l e (headSpec ws rm).room s m args below meth c s.heap [] 0 0 (MQ below Qc args s mc ms free) (entryFrame m args maxL)) : Met l y ws rm Pc Qc mc ms free := by
  refine MetFree.of_bodyS (code := cc) (maxLocals := maxL) (ret := ret) hy ?_ ?_
  · intro args s m h hn
    obtain ⟨m', meth, c, h0, h1, h2, h3, h4, -, h5, h6, -⟩ := Cond.codeWith_spec (atoms_spec (ws := ws) h _ (by rw [hw]; exact List.mem_cons_self))
    cases hn.symm.trans h0
    exact ⟨meth, c, h1, h2, h3, h4, h5, h6⟩
  · intro p e s m args below meth c s₁ B hml hP _
    have hh0 : s₁.heap = s.heap := by rw [B.state]; rfl
    obtain ⟨m', meth', c', h0, h1, h2, h3, h4, ht, -, -, -⟩ := Cond.codeWith_spec (atoms_spec (ws := ws) B.pre _ (by rw [hw]; exact List.mem_cons_self))
    cases B.named.symm.trans h0
    cases B.method.symm.trans h1
    cases (Stand.of_body B).code.symm.trans h2
    obtain ⟨t, a1, o, b1, b2, b3⟩ := body p e s m args below meth c s₁ B hml (by rw [← ht, table_eq]) hP s₁ hh0 (Stand.of_body B)
    exact ⟨t, o, a1, b1, b2, b3⟩
/-- the code word of a method, with handlers or without -/
def wx_Cw (y : MethodName) (maxL : Nat) (w : Cond) : Prop := (∃ bytes ret, w = Cond.code y bytes maxL ret) ∨ (∃ bytes ret hs, w = Cond.codeWith y bytes maxL ret hs)
theorem wx_Cw.spec {y : MethodName} {maxL : Nat} {w : Cond} {U : State} {a : Array Value} (h : wx_Cw y maxL w) (hb : w.before a U = true) :
    ∃ mk meth c, U.methodNamed? y = some mk ∧ U.vm.method? mk = some meth ∧ meth.code = some c ∧ c.maxLocals = maxL ∧ parseMethodDescriptor y.desc = some meth.sig := by
  rcases h with ⟨bytes, ret, rfl⟩ | ⟨bytes, ret, hs, rfl⟩
  · obtain ⟨mk, hn⟩ := Cond.code_named hb
    obtain ⟨meth, c, h1, h2, -, h4, -, -, -, h8⟩ := Cond.code_spec hn hb
    exact ⟨mk, meth, c, hn, h1, h2, h4, h8⟩
  · obtain ⟨mk, meth, c, h0, h1, h2, -, h4, -, -, -, h8⟩ := Cond.codeWith_spec hb
    exact ⟨mk, meth, c, h0, h1, h2, h4, h8⟩
/-- where the caller stands behind a call -/
def wx_next (U : State) (g : JFrame) (len : Nat) (o : Outcome) : State := match o with
  | .returned v => U.setTop { g with pc := g.pc + len, stack := v.toList ++ g.stack }
  | .threw x => (U.setTop g).pushFrame (.throwing x)
theorem wx_back {y : MethodName} {ws : List Cond} {rm : Room} {Pc : Array Value → State → Prop} {Qc : Array Value → State → Outcome → State → Prop} {maxL : Nat} {free : Addr → Prop} {w : Cond}
    (hM : wx_Met l y ws rm Pc Qc free) (hblind : FrameBlind Pc) (hrc : rm.cells = 1) (hrs : rm.slots = 6)
    (hframes : rm.frames + 1 ≤ R.frames) (hlocals : 8 + (maxL + 11) + rm.locals ≤ R.locals)
    (hws : ∀ w ∈ ws, ∀ a' U, s.WarmedH U.vm → w.before a' U = true) (hcw : wx_Cw y maxL w) (hcode : w ∈ ws) (hinit : ∀ a' U, s.WarmedH U.vm → (Cond.initialized y.cls).before a' U = true)
    (X : Stand p l e R s m args below meth c T locs cells slots) {g : JFrame} (hg : g.method = m) (hsize : g.locals.size = c.maxLocals) {ig : Instr} {len : Nat} (hdg : decode c.code g.pc = .ok (ig, len))
    (hW : 2 * g.monitorRoom + (g.stack.map fun v => v.category).sum ≤ 8) {mk : MethodId} (hn : T.methodNamed? y = some mk) {a : Array Value} (h4 : cells + 1 ≤ R.cells) (h5 : slots + 6 ≤ R.slots) (hP : Pc a T) :
    ∃ (o : Outcome) (st₀ t U' : State) (L : List Loc), st₀.heap = T.heap ∧ Stand p l e R s m args below meth c U' (locs ++ L) (cells + wx_c o) (slots + 6 * wx_c o) ∧ (∀ q ∈ L, free q.base) ∧ U'.heap = t.heap ∧ U'.vm = t.vm ∧ Qc a st₀ o t ∧
      Steps p.tables e below (doInvoke e (T.setTop g) [] mk a).1 (wx_next U' g len o) := by
  obtain ⟨mk', methY, cY, hn', hmY, hcY, hlY, -⟩ := hcw.spec (hws _ hcode a T X.warmed)
  cases hn.symm.trans hn'
  obtain ⟨kY, hkY, -⟩ := className_of_methodNamed hn
  have hinitY : kY.init = .initialized := Cond.initialized_spec (findClass_of_methodNamed hn) hkY (hinit a T X.warmed)
  have h : At T g.method c below := by rw [hg]; exact X.here
  have happ : (headSpec ws rm).appliesLoose y e.platform (T.calling g mk a) = true :=
    Spec.appliesLoose_calling (g := g) h hdg hn hkY hinitY
      (X.room_calling (g := g) (R' := (headSpec ws rm).room) hsize hmY hcY hframes (by rw [hlY]; show _ + (maxL + 11) + rm.locals ≤ _; omega) (by rw [show (headSpec ws rm).room.cells = 1 from hrc]; exact h4) (by rw [show (headSpec ws rm).room.slots = 6 from hrs]; exact h5)) (atoms_intro fun w hw => hws w hw _ _ X.warmed)
  obtain ⟨mid, hmid⟩ := h.above
  have hfr : (T.setTop g).frames = (.java g :: mid) ++ below := by rw [State.frames_setTop' g h.top, hmid]; rfl
  obtain ⟨o, s₂, hsteps, -, hend, hq⟩ := Steps.callFree hM p X.admits X.cas X.clock (acts := []) hfr happ (hblind _ _ _ _ hP) trivial
  have hq' : Qc a (T.calling g mk a) o s₂ ∧ ∃ L, wx_FE (T.calling g mk a) s₂ L (wx_c o) (6 * wx_c o) ∧ ∀ q ∈ L, free q.base := hq
  rw [State.frames_setTop' g h.top] at hend
  obtain ⟨hq1, L, ⟨hW₂, e2, q2, q3, q4, q5, q6⟩, hL⟩ := hq'
  have e3 : s₂ = ({ (T.calling g mk a).setFrames s₂.frames with heap := s₂.heap, slotsUsed := s₂.slotsUsed } : State).setVm s₂.vm := by
    have : s₂ = ({ s₂ with vm := (T.calling g mk a).vm } : State).setVm s₂.vm := rfl
    rw [e2] at this
    exact this
  have hW' : T.WarmedH s₂.vm := hW₂
  obtain ⟨g₀, hg0⟩ := Option.isSome_iff_exists.mp h.top
  obtain ⟨r, hr⟩ := State.topJava?_eq_some.mp hg0
  have hr' : (({ T with heap := s₂.heap, slotsUsed := s₂.slotsUsed } : State).setVm s₂.vm).frames = .java g₀ :: r := hr
  have hsame : T.sameButNew ({ T with heap := s₂.heap, slotsUsed := s₂.slotsUsed } : State) L (wx_c o) (6 * wx_c o) := by
    refine ⟨?_, q2, q3, q4, q5, q6⟩
    obtain ⟨t, ht, -⟩ := State.frames_cons hr
    show ({ T with heap := s₂.heap, slotsUsed := s₂.slotsUsed } : State) = { T.setFrames T.frames with heap := s₂.heap, slotsUsed := s₂.slotsUsed }
    rw [State.setFrames_self ht]
  have hs₂ : s₂ = wx_next (({ T with heap := s₂.heap, slotsUsed := s₂.slotsUsed } : State).setVm s₂.vm) g len o := by
    cases o with
    | returned v =>
      obtain ⟨c₂, i₂, len₂, hc₂, hd₂, hf₂⟩ := hend
      have hcc : c₂ = c := by
        have h1 : s₂.code? g.method = T.code? g.method := by
          rw [State.code?_eq, State.code?_eq, hW'.alike.method?]
        exact Option.some.inj (hc₂.symm.trans (h1.trans h.code))
      subst hcc
      have hlen : len₂ = len := by rw [hdg] at hd₂; cases hd₂; rfl
      subst hlen
      refine e3.trans ?_
      show _ = (({ T with heap := s₂.heap, slotsUsed := s₂.slotsUsed } : State).setVm s₂.vm).setTop { g with pc := g.pc + len₂, stack := v.toList ++ g.stack }
      rw [hf₂, State.calling_eq h.top, State.setFrames_setFrames, State.setTop_of_frames _ hr', hr]
      rfl
    | threw x =>
      have hf₂ : s₂.frames = .throwing x :: .java g :: T.frames.tail := hend
      refine e3.trans ?_
      show _ = ((({ T with heap := s₂.heap, slotsUsed := s₂.slotsUsed } : State).setVm s₂.vm).setTop g).pushFrame (.throwing x)
      rw [hf₂, State.calling_eq h.top, State.setFrames_setFrames, State.pushFrame, State.frames_setTop _ hr', State.setTop_of_frames _ hr', State.setFrames_setFrames, hr]
      rfl
  subst hg
  refine ⟨o, T.calling g mk a, s₂, (({ T with heap := s₂.heap, slotsUsed := s₂.slotsUsed } : State).setVm s₂.vm), L, rfl,
    ⟨X.admits, X.cas, X.clock, X.frames, X.room, X.hears, X.method, X.code, (X.here.setHeapUsed s₂.heap s₂.slotsUsed).setVm hW'.alike, X.tail, State.WarmedH.trans X.warmed hW', X.limits, X.bytes, X.same.trans (hsame.setVm s.vm)⟩, hL, rfl, rfl, hq1, ?_⟩
  rw [← hs₂]
  exact hsteps
/-- a call with either end -/
def wx_Run (p : Program) (l : Launch) (e : Env) (R : Room) (s : State) (m : MethodId) (args : Array Value) (below : List Frame) (meth : Method) (c : Code) (H : Heap) (locs : List Loc) (cells slots : Nat) (g : JFrame) (rest : List Value) (Qa : State → Outcome → State → Prop) (free : Addr → Prop) : Prop :=
  ∀ T : State, T.heap = H → Stand p l e R s m args below meth c T locs cells slots → ∃ (o : Outcome) (st₀ t T' : State) (L : List Loc), st₀.heap = H ∧ Stand p l e R s m args below meth c T' (locs ++ L) (cells + wx_c o) (slots + 6 * wx_c o) ∧ (∀ q ∈ L, free q.base) ∧ T'.heap = t.heap ∧ T'.vm = t.vm ∧ Qa st₀ o t ∧
    ∀ target, Steps p.tables e below (wx_next T' { g with stack := rest } 3 o) target → Steps p.tables e below (T.setTop g) target
end WX1
end
section
/-! Calls with either end, throws, catches. -/
section WX2
variable {p : Program} {l : Launch} {e : Env} {R : Room} {s : State} {m : MethodId} {args : Array Value} {below : List Frame} {meth : Method} {c : Code} {T : State} {H : Heap} {locs : List Loc} {cells slots : Nat} {Q : State → Prop}
variable {y : MethodName} {bytes cc : ByteArray} {maxL nL mc ms n index : Nat} {ret : Option FieldType} {ws : List Cond} {rm : Room} {Pc : Array Value → State → Prop} {Qc : Array Value → State → Outcome → State → Prop} {free : Addr → Prop} {Ts : List Cond} {own C : String} {b : Addr} {As rest : List Value} {g : JFrame}
theorem wx_runV (S : CallFix p m c cc nL s args Ts own) (hM : wx_Met l y ws rm Pc Qc free) (cw : CallW R s args own C index y bytes maxL ret ws rm 1 6 n) (hp : PreV s H C b Pc As)
    (hg : g.method = m) (hn : As.length = n) (hsize : g.locals.size = nL) (hstack : g.stack = As.reverse ++ .ref b :: rest) (hW : 2 * g.monitorRoom + (rest.map fun v => v.category).sum ≤ 8) (hdg : decode cc g.pc = .ok (.invokevirtual index, 3)) (hf : cells + 1 ≤ R.cells ∧ slots + 6 ≤ R.slots) :
    wx_Run p l e R s m args below meth c H locs cells slots g rest (Qc (Value.ref b :: As).toArray) (free) := by
  obtain ⟨⟨hrc, hrs, hfr, hlo, hws, hcw, hcode, hini, hy, hlen, hl⟩, hin, hse⟩ := cw
  obtain ⟨hx, hb, hml, ho, -⟩ := S
  obtain ⟨hbl, ⟨cellB, hcB, hoB, hclB⟩, hPc⟩ := hp
  intro T hT X
  subst hT
  obtain ⟨mk, methM, hnamed, hmethM, hstM, habM⟩ := Cond.instanceMethod_spec hin
  obtain ⟨methM', cM, hmethM', -, -, -, -, -, -, hsigM⟩ := Cond.code_spec hnamed hcode
  cases hmethM.symm.trans hmethM'
  obtain ⟨c2, r2, m2, q1, q2, q3, q4, kP, hkP, hkPi⟩ := Cond.selects_spec hse
  cases hclB.symm.trans q1
  cases (State.methodFound?_of_named hnamed hy).symm.trans q2
  cases hnamed.symm.trans q3
  have hselP : selectMethod e.platform s.vm cellB.cls mk = .method mk := by rw [Launch.admits_selectMethod X.admits]; exact q4
  obtain ⟨vm₁, X₁, hstep₁⟩ := X.invokevirtual hx ho hl hnamed hmethM hstM hkP hkPi hy (a := b) (cell := cellB) hcB
    (fun z h => by rw [h] at hoB; cases hoB) hselP hmethM habM hkP hkPi (g := g) hg (argsL := As) (rest := rest) (hn.trans (hlen _ hsigM)) hstack (by rw [hb]; exact hdg)
  obtain ⟨o, st₀, t, T', L, h0, X', hL, e1, e2, hq, hsteps⟩ := wx_back hM hbl hrc hrs hfr hlo hws (Or.inl ⟨bytes, ret, rfl⟩) hcw (fun a' U hW => word_at hW (Or.inl (by first | rfl | simp [Cond.onTables, Cond.keeps, Cond.steady])) hini) X₁ (g := { g with stack := rest }) hg (hsize.trans hml.symm) (len := 3) (ig := .invokevirtual index) (by rw [hb]; exact hdg) hW (X₁.named hnamed) hf.1 hf.2 (hPc (T.setVm vm₁) rfl X₁.warmed)
  exact ⟨o, st₀, t, T', L, h0, X', hL, e1, e2, hq, fun target h => hstep₁ _ fun acts => by rw [doInvoke_state]; exact hsteps.trans h⟩
/-- what a static call needs of the tables, its method with handlers or without -/
abbrev wx_CS (R : Room) (s : State) (args : Array Value) (own : String) (index : Nat) (y : MethodName) (w : Cond) (maxL : Nat) (ws : List Cond) (rm : Room) (mc ms n : Nat) : Prop :=
  rm.cells = mc ∧ rm.slots = ms ∧ rm.frames + 1 ≤ R.frames ∧ 8 + (maxL + 11) + rm.locals ≤ R.locals ∧ (∀ w ∈ ws, ∀ (a' : Array Value) (U : State), s.WarmedH U.vm → w.before a' U = true) ∧ wx_Cw y maxL w ∧ w ∈ ws ∧
  w.before args s = true ∧ (Cond.initialized y.cls).before args s = true ∧ (y.cls ≠ "java/lang/invoke/MethodHandle" ∧ y.cls ≠ "java/lang/invoke/VarHandle") ∧ (∀ sig, parseMethodDescriptor y.desc = some sig → n = sig.parameters.length) ∧ (Cond.methodLink own index y).before args s = true ∧ (Cond.static y).before args s = true
theorem wx_cs {w : Cond} {ws' : List Cond} (n : Nat) (hcw : wx_Cw y maxL w) (ht : ∀ w ∈ Ts, w.before args s = true) (hT : GoodIn Ts (wsS own index y ws)) (hw : ws = w :: ws') (hrc : rm.cells = mc) (hrs : rm.slots = ms)
    (hd : y.cls = own ∧ y.cls ≠ "java/lang/invoke/MethodHandle" ∧ y.cls ≠ "java/lang/invoke/VarHandle" ∧ (parseMethodDescriptor y.desc).map (fun d => d.parameters.length) = some n) (hR : rm.frames + 1 ≤ R.frames ∧ 8 + (maxL + 11) + rm.locals ≤ R.locals) :
    wx_CS R s args own index y w maxL ws rm mc ms n := by
  obtain ⟨hC, hd1, hd2, hd3⟩ := hd
  have ok : ∀ w ∈ wsS own index y ws, w.before args s = true := fun w h => ht w (hT w h).1
  have hc : w ∈ ws := by rw [hw]; exact List.mem_cons_self
  have hG : GoodIn Ts ws := fun w h => hT w (by unfold wsS; exact List.mem_append_right _ h)
  refine ⟨hrc, hrs, hR.1, hR.2, pay_in ht hG, hcw, hc, ht _ (hG _ hc).1, by rw [hC]; exact ok _ (by simp [wsS]), ⟨hd1, hd2⟩, fun sig h => ?_, ok _ (by simp [wsS]), ok _ (by simp [wsS])⟩
  rw [h] at hd3
  exact (Option.some.inj hd3).symm
theorem wx_runS {w : Cond} (S : CallFix p m c cc nL s args Ts own) (hM : wx_Met l y ws rm Pc Qc free) (cw : wx_CS R s args own index y w maxL ws rm 1 6 n) (hp : PreS s H Pc As)
    (hg : g.method = m) (hn : As.length = n) (hsize : g.locals.size = nL) (hstack : g.stack = As.reverse ++ rest) (hW : 2 * g.monitorRoom + (rest.map fun v => v.category).sum ≤ 8) (hdg : decode cc g.pc = .ok (.invokestatic index, 3)) (hf : cells + 1 ≤ R.cells ∧ slots + 6 ≤ R.slots) :
    wx_Run p l e R s m args below meth c H locs cells slots g rest (Qc As.toArray) (free) := by
  obtain ⟨hrc, hrs, hfr, hlo, hws, hcw, hcm, hcode, hini, hy, hlen, hl, hstat⟩ := cw
  obtain ⟨hx, hb, hml, ho, -⟩ := S
  obtain ⟨hbl, hPc⟩ := hp
  intro T hT X
  subst hT
  obtain ⟨mk, methM, cM, hnamed, hmethM, -, -, hsigM⟩ := hcw.spec hcode
  have hstatic : methM.isStatic = true := Cond.static_spec hnamed hmethM hstat
  obtain ⟨kP, hkP, -⟩ := className_of_methodNamed hnamed
  have hinitP : kP.init = .initialized := Cond.initialized_spec (findClass_of_methodNamed hnamed) hkP hini
  obtain ⟨vm₁, X₁, hstep₁⟩ := X.invokestatic hx ho hl hnamed hmethM hstatic hkP hinitP hy (g := g) hg (argsL := As) (rest := rest) (hn.trans (hlen _ hsigM)) hstack (by rw [hb]; exact hdg)
  obtain ⟨o, st₀, t, T', L, h0, X', hL, e1, e2, hq, hsteps⟩ := wx_back hM hbl hrc hrs hfr hlo hws hcw hcm (fun a' U hW => word_at hW (Or.inl (by first | rfl | simp [Cond.onTables, Cond.keeps, Cond.steady])) hini) X₁ (g := { g with stack := rest }) hg (hsize.trans hml.symm) (len := 3) (ig := .invokestatic index) (by rw [hb]; exact hdg) hW (X₁.named hnamed) hf.1 hf.2 (hPc (T.setVm vm₁) rfl X₁.warmed)
  exact ⟨o, st₀, t, T', L, h0, X', hL, e1, e2, hq, fun target h => hstep₁ _ fun acts => by rw [doInvoke_state]; exact hsteps.trans h⟩
/-- an exception of class X lies at x -/
def wx_Ex (X : String) (x : Nat) (t : State) : Prop := ∃ cell : Cell, t.heap[x]? = some cell ∧ cell.vm.isStatics = false ∧ t.vm.findClass X = some cell.cls
/-- the ends of a method: a value of the kind rv, or an exception -/
def wx_Q {ρ S : Type} (rv : ρ → Option Value) (post : ρ → S → Prop) (pt : String → S → Prop) (B : S → State → Prop) (A : Nat → Prop) : Array Value → State → Outcome → State → Prop := fun _ st oc t =>
  ((∃ (r : ρ) (u : S), oc = .returned (rv r) ∧ post r u ∧ B u t) ∨ (∃ (x : Nat) (X : String) (u : S), oc = .threw x ∧ pt X u ∧ B u t ∧ wx_Ex X x t)) ∧ va_F A st t
/-- the walk stands at frame g with an exception on its way -/
def wx_Th (p : Program) (l : Launch) (e : Env) (R : Room) (s : State) (m : MethodId) (args : Array Value) (below : List Frame) (meth : Method) (c : Code) (H : Heap) (locs : List Loc) (cells slots : Nat) (Q : State → Prop) (g : JFrame) (x : Nat) : Prop :=
  ∀ T : State, T.heap = H → Stand p l e R s m args below meth c T locs cells slots → ∃ t, Steps p.tables e below ((T.setTop g).pushFrame (.throwing x)) t ∧ Q t
section WXC
variable {pc : Nat} {ls : Array Slot} {st0 : List Value} {a : Array Value} {A0 A1 : Nat → Prop} {H0 : Heap}
theorem wx_call {ρ S : Type} {rv : ρ → Option Value} {post : ρ → S → Prop} {pt : String → S → Prop} {B : S → State → Prop} (hr : wx_Run p l e R s m args below meth c H locs cells slots (F0 m pc ls st0) rest (wx_Q rv post pt B A1 a) free) (hS : va_S A0 H0 H locs) (hA : ∀ q, q < H.size → A1 q → A0 q) (hf : ∀ q, free q → A0 q)
    (kk : ∀ (r : ρ) (u : S) (t : State) (H1 : Heap) (locs1 : List Loc), t.heap = H1 → s.vm.Alike t.vm → post r u → B u t → H.size ≤ H1.size → (∀ q : Nat, q < H.size → ¬ A1 q → H1[q]? = H[q]?) → va_S A0 H0 H1 locs1 → W p l e R s m args below meth c H1 locs1 cells slots Q (F0 m (pc + 3) ls ((rv r).toList ++ rest)))
    (kt : ∀ (x : Nat) (X : String) (u : S) (t : State) (H1 : Heap) (locs1 : List Loc), t.heap = H1 → s.vm.Alike t.vm → pt X u → B u t → wx_Ex X x t → H.size ≤ H1.size → (∀ q : Nat, q < H.size → ¬ A1 q → H1[q]? = H[q]?) → va_S A0 H0 H1 locs1 → wx_Th p l e R s m args below meth c H1 locs1 (cells + 1) (slots + 6) Q (F0 m pc ls rest) x) : W p l e R s m args below meth c H locs cells slots Q (F0 m pc ls st0) := by
  intro T hT X
  obtain ⟨o, st₀, t, T', L, h0, X', hL, e1, e2, ⟨hq, hz, hk⟩, st⟩ := hr T hT X
  rw [h0] at hz hk
  have hS' : va_S A0 H0 T'.heap (locs ++ L) := ⟨Nat.le_trans hS.1 (by rw [e1]; exact hz), fun q h1 h2 => by rw [e1, hk q (Nat.lt_of_lt_of_le h1 hS.1) (fun z => h2 (hA q (Nat.lt_of_lt_of_le h1 hS.1) z))]; exact hS.2.1 q h1 h2, fun q hq => by
      rcases List.mem_append.mp hq with h | h
      · exact hS.2.2 q h
      · exact hf _ (hL q h)⟩
  rcases hq with ⟨r, u, rfl, hp, hb⟩ | ⟨x, X0, u, rfl, hp, hb, hx⟩
  · obtain ⟨t2, a1, b1⟩ := kk r u t T'.heap (locs ++ L) e1.symm (by rw [← e2]; exact X'.warmed.alike) hp hb (by rw [e1]; exact hz) (fun q h1 h2 => by rw [e1]; exact hk q h1 h2) hS' T' rfl X'
    exact ⟨t2, st t2 a1, b1⟩
  · obtain ⟨t2, a1, b1⟩ := kt x X0 u t T'.heap (locs ++ L) e1.symm (by rw [← e2]; exact X'.warmed.alike) hp hb hx (by rw [e1]; exact hz) (fun q h1 h2 => by rw [e1]; exact hk q h1 h2) hS' T' rfl X'
    exact ⟨t2, st t2 a1, b1⟩
/-- the exception leaves the method -/
theorem wx_out {x : Nat} (ht : c.exceptionTable.toList = []) (hlocks : meth.locks = false) (hq : ∀ t : State, t.heap = H → s.WarmedH t.vm → Qc args s (.threw x) t) (hf : ∀ q ∈ locs, free q.base) : wx_Th p l e R s m args below meth c H locs 1 6 (wx_MQ below Qc args s free) (F0 m pc ls rest) x := by
  intro T hT X
  obtain ⟨h1, h2, h3, h4, h5⟩ := X.leaveThrown x (g := F0 m pc ls rest) rfl rfl rfl (fun y hy => by rw [ht] at hy; cases hy) hlocks
  exact ⟨_, h1, .threw x, h2, h3, hq _ hT h4, locs, ⟨h4, h5⟩, hf⟩
end WXC
theorem wx_Th.widen {x : Nat} {k n : Nat} (hk : cells ≤ k) (hn : slots ≤ n) (h : wx_Th p l e R s m args below meth c H locs k n Q g x) : wx_Th p l e R s m args below meth c H locs cells slots Q g x := by
  intro T hT X
  exact h T hT (stand_widen X hk hn)
end WX2
end
section
/-! 'throw new X("..")' and 'catch', over the kit's W. -/
section WX3
variable {p : Program} {l : Launch} {e : Env} {R : Room} {s : State} {m : MethodId} {args : Array Value} {below : List Frame} {meth : Method} {c : Code} {T : State} {H : Heap} {locs : List Loc} {cells slots : Nat} {Q : State → Prop}
variable {cc : ByteArray} {pc : Nat} {ls : Array Slot} {rest : List Value} {Qc : Array Value → State → Outcome → State → Prop} {free : Addr → Prop}
/-- new X, dup, ldc, X.<init>(String), athrow, in a method that has written nothing yet -/
theorem wx_throw (hexec : p.tables.exec = Jvm.exec) (hb : c.code = cc) (htr : ∀ e, l.admits e → e.platform.stackTraces = false) {own X tx : String} {names : List String} {i0 i1 i2 q : Nat}
    (hown : s.vm.findClass own = some m.cls) (hcls : Bundle.fit X = true) (hnames : ∀ n ∈ names, Bundle.fit n = true)
    (hcl : (Cond.classLink own i0 X).before args s = true) (hins : (Cond.instantiable X 6).before args s = true) (hini : (Cond.initialized X).before args s = true)
    (hat : ∀ a ∈ Bundle.ownAtoms own i2 X names, a.before args s = true) (hZ : vk_R own i1 tx q s)
    (ht : c.exceptionTable.toList = []) (hlocks : meth.locks = false) (hsize : ls.size = c.maxLocals)
    (hd0 : decode cc pc = .ok (.new i0, 3)) (hd3 : decode cc (pc + 3) = .ok (.dup, 1)) (hd4 : decode cc (pc + 4) = .ok (.ldc i1, 2)) (hd6 : decode cc (pc + 6) = .ok (.invokespecial i2, 3)) (hd9 : decode cc (pc + 9) = .ok (.athrow, 1))
    (hR : 1 ≤ R.cells ∧ 6 ≤ R.slots ∧ names.length + 3 < R.frames ∧ 1 + (13 * (names.length + 1) + 42) ≤ R.locals)
    (hq : ∀ (t : State) (x : Nat), s.heap.size ≤ t.heap.size → (∀ q : Nat, q < s.heap.size → t.heap[q]? = s.heap[q]?) → s.WarmedH t.vm → wx_Ex X x t → Qc args s (.threw x) t) :
    W p l e R s m args below meth c s.heap [] 0 0 (wx_MQ below Qc args s free) (F0 m pc ls []) := by
  refine W.newc hexec hb hown hcl hins hini (g := F0 m pc ls []) rfl hd0 (by omega) (by omega) (fun cC kC f1 f2 f3 f4 => ?_)
  refine lv_dup hexec hb hd3 rfl ?_
  refine va_ldcS hexec hb hown hZ hd4 ?_
  intro T hT X0
  obtain ⟨U, g1, g2, g3, g4, g5, ce, g6, g7⟩ := X0.ctorThrowS hexec (htr e X0.admits) hown hcls hnames hat (fun x hx => by cases hx) f1 f2 (a := s.heap.size) (by rw [hT]; exact Array.getElem?_push_size) (Nat.le_refl _) (msg := .ref q) rfl
    (g := F0 m (pc + 6) ls [.ref q, .ref s.heap.size, .ref s.heap.size]) rfl hsize rfl rfl (rest := []) rfl (by rw [hb]; exact hd6) (by rw [hb]; exact hd9) (fun y hy => by rw [ht] at hy; cases hy) hR.2.2.1 (by simpa [Value.category, JFrame.monitorRoom] using hR.2.2.2) hlocks
  have hk : ∀ q : Nat, q < s.heap.size → U.heap[q]? = s.heap[q]? := fun q hlt => by
    have h1 : s.heap[q]? = some s.heap[q] := Array.getElem?_eq_getElem hlt
    have h2 := kept_of_same (keep := fun _ => True) g5 (fun _ h => by cases h) q _ trivial h1
    rw [h1]; exact h2
  have hz : s.heap.size ≤ U.heap.size := by
    have hlt : s.heap.size < U.heap.size := (Array.getElem?_eq_some_iff.mp g6).1
    omega
  refine ⟨U, g1, .threw s.heap.size, g2, g3, hq U _ hz hk g4 ⟨ce, g6, by rw [g7.vm]; rfl, by rw [g4.alike.findClass]; exact g7.cls⟩, [], ⟨g4, ?_⟩, fun _ h => by cases h⟩
  simpa [f4, wx_c] using g5
/-- the table's rows, in their order, lead an exception of class X to the handler h -/
def wx_Lands (s0 : State) (args : Array Value) (own X : String) (pc : Nat) (h : Nat) : List ExceptionTableEntry → Prop
  | [] => False
  | x :: t => (covers x pc = true ∧ x.catchType ≠ 0 ∧ x.handlerPc = h ∧ ∃ nm, (Cond.classLink own x.catchType nm).before args s0 = true ∧ (Cond.castable X nm).before args s0 = true) ∨
      (covers x pc = true ∧ x.catchType ≠ 0 ∧ (∃ nm, (Cond.classLink own x.catchType nm).before args s0 = true ∧ (Cond.not (.castable X nm)).before args s0 = true) ∧ wx_Lands s0 args own X pc h t) ∨
      (covers x pc = false ∧ wx_Lands s0 args own X pc h t)
theorem wx_row {e : Env} {S : State} {f : JFrame} {a : Addr} {Q : Handler → Pre} {E : CtlPost} {d : Bool} {acts : List Action} {x : ExceptionTableEntry} {t : List ExceptionTableEntry} {c : ClassId} {cell : Cell} (hx : covers x f.pc = true) (h0 : x.catchType ≠ 0)
    (hl : S.vm.ClassLinks e.platform f.method.cls x.catchType c) (hcell : S.heap[a]? = some cell) (hobj : ∀ k, cell.vm ≠ .statics k)
    (hk : ∃ k, S.vm.classes[cell.cls]? = some k) (hc : ∃ k, S.vm.classes[c]? = some k) :
    wp (findHandler.go f a (x :: t)) Q E e d acts S ↔ if S.vm.assignable cell.cls c = true then Q (.found x.handlerPc) d acts (S.setVm (S.vm.noted f.method.cls x.catchType (.cls c))) else wp (findHandler.go f a t) Q E e d acts (S.setVm (S.vm.noted f.method.cls x.catchType (.cls c))) := by
  simp only [covers] at hx
  obtain ⟨ha, ht⟩ := (resolveClass_links e.toSetting hl).op (op := VmOp.resolveClass f.method.cls x.catchType) rfl
  have hal : S.vm.Alike (S.vm.noted f.method.cls x.catchType (.cls c)) := (Vm.Alike.refl S.vm).noted _ _ _
  obtain ⟨k1, hk1⟩ := hk
  obtain ⟨k2, hk2⟩ := hc
  obtain ⟨k1', hk1', -⟩ := hal.2.2 _ _ hk1
  obtain ⟨k2', hk2', -⟩ := hal.2.2 _ _ hk2
  rw [← hal.assignable]
  cases hfit : (S.vm.noted f.method.cls x.catchType (.cls c)).assignable cell.cls c <;>
    simp [findHandler.go, hx, h0, ha, ht, hcell, hobj, hk1', hk2', hfit, VmOp.dirties, VmOp.acts]
theorem wx_seek {e : Env} (hpl : e.platform.magicAccessors = ({} : Platform).magicAccessors) {s0 : State} {args : Array Value} {own X : String} {f : JFrame} {a : Addr} {cell : Cell} {h : Nat} (hown : s0.vm.findClass own = some f.method.cls) (hX : s0.vm.findClass X = some cell.cls) (hobj : ∀ k, cell.vm ≠ .statics k) :
    ∀ (es : List ExceptionTableEntry) (S : State), wx_Lands s0 args own X f.pc h es → s0.WarmedH S.vm → S.heap[a]? = some cell →
      ∃ vm', s0.WarmedH vm' ∧ ∀ (Q : Handler → Pre) (E : CtlPost) (d : Bool) (acts : List Action), wp (findHandler.go f a es) Q E e d acts S ↔ Q (.found h) d acts (S.setVm vm') := by
  intro es
  induction es with
  | nil => intro S hl; exact absurd hl (by simp [wx_Lands])
  | cons x t ih =>
    intro S hl hW hcell
    obtain ⟨k0, hk0⟩ := Vm.classAt_of_findClass hX
    obtain ⟨k0', hk0', -⟩ := hW.alike.2.2 _ _ hk0
    rcases hl with ⟨hx, h0, hh, nm, hlk, hca⟩ | ⟨hx, h0, ⟨nm, hlk, hca⟩, hl⟩ | ⟨hx, hl⟩
    · obtain ⟨c', hc', hcl⟩ := Cond.classLink_spec hown hlk e.platform hpl
      obtain ⟨dk, _, _, kt, hd, _, _, _, _, hkt, _, hopen⟩ := hcl.here
      obtain ⟨kt', hkt', -⟩ := hW.alike.2.2 _ _ hkt
      obtain ⟨c3, c4, w1, w2, w3⟩ := Cond.castable_spec hca
      cases hX.symm.trans w1
      cases hc'.symm.trans w2
      have hfit : S.vm.assignable cell.cls c' = true := by rw [hW.alike.assignable]; exact w3
      refine ⟨_, hW.noted hd hopen (State.rightAt_cls hcl), fun Q E d acts => ?_⟩
      rw [wx_row hx h0 (hW.classLinks hcl) hcell hobj ⟨k0', hk0'⟩ ⟨kt', hkt'⟩, if_pos hfit, hh]
    · obtain ⟨c', hc', hcl⟩ := Cond.classLink_spec hown hlk e.platform hpl
      obtain ⟨dk, _, _, kt, hd, _, _, _, _, hkt, _, hopen⟩ := hcl.here
      obtain ⟨kt', hkt', -⟩ := hW.alike.2.2 _ _ hkt
      obtain ⟨c3, c4, w1, w2, w3⟩ := va_Nc.of hca
      cases hX.symm.trans w1
      cases hc'.symm.trans w2
      have hno : S.vm.assignable cell.cls c' = false := by rw [hW.alike.assignable]; exact w3
      have hW' := hW.noted hd hopen (State.rightAt_cls hcl)
      obtain ⟨vm', hV, hgo⟩ := ih (S.setVm (S.vm.noted f.method.cls x.catchType (.cls c'))) hl hW' hcell
      refine ⟨vm', hV, fun Q E d acts => ?_⟩
      rw [wx_row hx h0 (hW.classLinks hcl) hcell hobj ⟨k0', hk0'⟩ ⟨kt', hkt'⟩, if_neg (by rw [hno]; decide), hgo]
      exact Iff.rfl
    · obtain ⟨vm', hV, hgo⟩ := ih S hl hW hcell
      exact ⟨vm', hV, fun Q E d acts => by rw [W.findHandler_go_skip hx]; exact hgo Q E d acts⟩
theorem wx_step {e : Env} {s : State} {a : Addr} {f : JFrame} {r : List Frame} {pc : Nat} {vm' : Vm} (hfind : ∀ (Q : Handler → Pre) (E : CtlPost) (d : Bool) (acts : List Action), wp (findHandler f a) Q E e d acts s ↔ Q (.found pc) d acts (s.setVm vm')) :
    (stepThrowing e s a (.java f :: r)).Is ((s.setVm vm').setFrames (.java { f with pc := pc, stack := [.ref a] } :: r)) [] := by
  simp only [stepThrowing, searchFrame, vmDo]
  generalize hr : Sem.go _ e false [] s = res
  obtain ⟨as, rfl, ha⟩ := Sem.eq_ok_of hr (a := Handler.found pc) (s' := s.setVm vm') (acts' := []) (by simp [hfind _ _ _ _])
  exact ⟨rfl, ha⟩
/-- the exception is caught in the walked method -/
theorem wx_catch {own X : String} {x hp : Nat} {es : List ExceptionTableEntry} (hown : s.vm.findClass own = some m.cls) (hes : c.exceptionTable.toList = es) (hex : ∃ cell : Cell, H[x]? = some cell ∧ cell.vm.isStatics = false ∧ s.vm.findClass X = some cell.cls) (hl : wx_Lands s args own X pc hp es)
    (k : W p l e R s m args below meth c H locs cells slots Q (F0 m hp ls [.ref x])) : wx_Th p l e R s m args below meth c H locs cells slots Q (F0 m pc ls rest) x := by
  obtain ⟨cell, h1, h2, h3⟩ := hex
  intro T hT X0
  subst hT
  have hpl : e.platform.magicAccessors = ({} : Platform).magicAccessors := by rw [X0.admits.platform]
  obtain ⟨vm', hW', hgo⟩ := wx_seek (f := F0 m pc ls rest) (a := x) hpl hown h3 (VmData.ne_statics_of h2) es ((T.setTop (F0 m pc ls rest)).pushFrame (.throwing x)) hl X0.warmed h1
  obtain ⟨t, a1, b1⟩ := k (T.setVm vm') rfl (X0.noted hW')
  refine ⟨t, ?_, b1⟩
  have hAt : At T (F0 m pc ls rest).method c below := X0.here
  obtain ⟨hg1, hg2⟩ := hAt.throwing (g := F0 m pc ls rest) x
  refine Steps.head hg1 hg2 ?_
  have hfind : ∀ (Q : Handler → Pre) (E : CtlPost) (d : Bool) (acts : List Action), wp (findHandler (F0 m pc ls rest) x) Q E e d acts ((T.setTop (F0 m pc ls rest)).pushFrame (.throwing x)) ↔ Q (.found hp) d acts (((T.setTop (F0 m pc ls rest)).pushFrame (.throwing x)).setVm vm') := fun Q E d acts => by
    rw [W.findHandler_eq (meth := meth) (code := c) X0.method' X0.code, hes]
    exact hgo Q E d acts
  rw [stepThread_throwing (frames_entered hAt.top _), (wx_step hfind).1]
  obtain ⟨g₀, hg⟩ := Option.isSome_iff_exists.mp hAt.top
  obtain ⟨r, hr⟩ := State.topJava?_eq_some.mp hg
  have hr' : (T.setVm vm').frames = .java g₀ :: r := hr
  rw [State.setTop_of_frames _ hr'] at a1
  have e1 : ∀ (u : State) (F G : List Frame), ((u.setFrames F).setVm vm').setFrames G = (u.setVm vm').setFrames G := fun u F G => by
    have h1 : (u.setFrames F).setVm vm' = (u.setVm vm').setFrames F := rfl
    rw [h1, State.setFrames_setFrames]
  rw [hr, List.tail_cons, State.pushFrame, e1, State.setTop_of_frames _ hr, e1]
  exact a1
end WX3
end
section
def R_LR : String := "LevelRows"
def R_Lv : String := "LevelRows$Levels"
def R_Nd : String := "LevelRows$Needs"
def R_Pt : String := "LevelRows$Parts"
def R_Rp : String := "LevelRows$Replacement"
def R_Mo : String := "LevelRowsModel"
def R_Law : String := "LevelRowsLaw"
def R_Ar : String := "java/util/Arrays"
def F_LR : u_T := fun k => match k with
  | 0 => ("LevelRows", "levels", "LLevelRows$Levels;", true)
  | 1 => ("LevelRows", "replacement", "LLevelRows$Replacement;", true)
  | _ => ("LevelRows", "needs", "LLevelRows$Needs;", true)
def t_LR : Nat → FieldType := fun k => match k with
  | 0 => .object "LevelRows$Levels"
  | 1 => .object "LevelRows$Replacement"
  | _ => .object "LevelRows$Needs"
theorem n_LR : ∀ a, a < 3 → ∀ b, b < 3 → a ≠ b → (F_LR a).2.1 ≠ (F_LR b).2.1 := by decide +kernel
theorem t_LR_ok : ∀ k, k < 3 → parseFieldDescriptor (F_LR k).2.2.1 = some (t_LR k) := by decide +kernel
theorem ul_LR : ∀ w ∈ u_ws R_LR F_LR 3, w ∈ tb := by decide +kernel
def F_Lv : u_T := fun k => match k with
  | 0 => ("LevelRows$Levels", "kinds", "[I", true)
  | 1 => ("LevelRows$Levels", "firsts", "[I", true)
  | 2 => ("LevelRows$Levels", "seconds", "[I", true)
  | 3 => ("LevelRows$Levels", "nexts", "[I", true)
  | 4 => ("LevelRows$Levels", "uses", "[I", true)
  | 5 => ("LevelRows$Levels", "values", "[I", true)
  | 6 => ("LevelRows$Levels", "parts", "[J", true)
  | _ => ("LevelRows$Levels", "count", "I", false)
def t_Lv : Nat → FieldType := fun k => match k with
  | 0 => .array .int
  | 1 => .array .int
  | 2 => .array .int
  | 3 => .array .int
  | 4 => .array .int
  | 5 => .array .int
  | 6 => .array .long
  | _ => .int
theorem n_Lv : ∀ a, a < 8 → ∀ b, b < 8 → a ≠ b → (F_Lv a).2.1 ≠ (F_Lv b).2.1 := by decide +kernel
theorem t_Lv_ok : ∀ k, k < 8 → parseFieldDescriptor (F_Lv k).2.2.1 = some (t_Lv k) := by decide +kernel
theorem ul_Lv : ∀ w ∈ u_ws R_Lv F_Lv 8, w ∈ tb := by decide +kernel
def F_Rp : u_T := fun k => match k with
  | 0 => ("LevelRows$Replacement", "levels", "LLevelRows$Levels;", true)
  | 1 => ("LevelRows$Replacement", "results", "[I", true)
  | _ => ("LevelRows$Replacement", "open", "[I", true)
def t_Rp : Nat → FieldType := fun k => match k with
  | 0 => .object "LevelRows$Levels"
  | 1 => .array .int
  | _ => .array .int
theorem n_Rp : ∀ a, a < 3 → ∀ b, b < 3 → a ≠ b → (F_Rp a).2.1 ≠ (F_Rp b).2.1 := by decide +kernel
theorem t_Rp_ok : ∀ k, k < 3 → parseFieldDescriptor (F_Rp k).2.2.1 = some (t_Rp k) := by decide +kernel
theorem ul_Rp : ∀ w ∈ u_ws R_Rp F_Rp 3, w ∈ tb := by decide +kernel
def F_Nd : u_T := fun k => match k with
  | 0 => ("LevelRows$Needs", "lows", "[I", true)
  | 1 => ("LevelRows$Needs", "steps", "[I", true)
  | 2 => ("LevelRows$Needs", "highs", "[I", true)
  | 3 => ("LevelRows$Needs", "kept", "[Z", true)
  | 4 => ("LevelRows$Needs", "numbers", "[I", true)
  | 5 => ("LevelRows$Needs", "unknowns", "I", false)
  | 6 => ("LevelRows$Needs", "count", "I", false)
  | 7 => ("LevelRows$Needs", "solved", "Z", false)
  | 8 => ("LevelRows$Needs", "solvedIsKnown", "Z", false)
  | _ => ("LevelRows$Needs", "clashIsKnown", "Z", false)
def t_Nd : Nat → FieldType := fun k => match k with
  | 0 => .array .int
  | 1 => .array .int
  | 2 => .array .int
  | 3 => .array .boolean
  | 4 => .array .int
  | 5 => .int
  | 6 => .int
  | 7 => .boolean
  | 8 => .boolean
  | _ => .boolean
theorem n_Nd : ∀ a, a < 10 → ∀ b, b < 10 → a ≠ b → (F_Nd a).2.1 ≠ (F_Nd b).2.1 := by decide +kernel
theorem t_Nd_ok : ∀ k, k < 10 → parseFieldDescriptor (F_Nd k).2.2.1 = some (t_Nd k) := by decide +kernel
theorem ul_Nd : ∀ w ∈ u_ws R_Nd F_Nd 10, w ∈ tb := by decide +kernel
def F_Mo : u_T := fun k => match k with
  | 0 => ("LevelRowsModel", "thrown", "I", false)
  | 1 => ("LevelRowsModel", "kinds", "[I", true)
  | 2 => ("LevelRowsModel", "firsts", "[I", true)
  | 3 => ("LevelRowsModel", "seconds", "[I", true)
  | 4 => ("LevelRowsModel", "deeps", "[I", true)
  | 5 => ("LevelRowsModel", "levels", "I", false)
  | 6 => ("LevelRowsModel", "numbers", "[I", true)
  | 7 => ("LevelRowsModel", "values", "[I", true)
  | 8 => ("LevelRowsModel", "becomes", "[I", true)
  | 9 => ("LevelRowsModel", "waits", "[I", true)
  | 10 => ("LevelRowsModel", "lefts", "[I", true)
  | 11 => ("LevelRowsModel", "adds", "[I", true)
  | 12 => ("LevelRowsModel", "rights", "[I", true)
  | 13 => ("LevelRowsModel", "unknown", "[I", true)
  | 14 => ("LevelRowsModel", "counts", "[Z", true)
  | 15 => ("LevelRowsModel", "unknowns", "I", false)
  | _ => ("LevelRowsModel", "needs", "I", false)
def t_Mo : Nat → FieldType := fun k => match k with
  | 0 => .int
  | 1 => .array .int
  | 2 => .array .int
  | 3 => .array .int
  | 4 => .array .int
  | 5 => .int
  | 6 => .array .int
  | 7 => .array .int
  | 8 => .array .int
  | 9 => .array .int
  | 10 => .array .int
  | 11 => .array .int
  | 12 => .array .int
  | 13 => .array .int
  | 14 => .array .boolean
  | 15 => .int
  | _ => .int
theorem n_Mo : ∀ a, a < 17 → ∀ b, b < 17 → a ≠ b → (F_Mo a).2.1 ≠ (F_Mo b).2.1 := by decide +kernel
theorem t_Mo_ok : ∀ k, k < 17 → parseFieldDescriptor (F_Mo k).2.2.1 = some (t_Mo k) := by decide +kernel
theorem ul_Mo : ∀ w ∈ u_ws R_Mo F_Mo 17, w ∈ tb := by decide +kernel
abbrev classes : List vw_C := [(R_LR, F_LR, 3), (R_Lv, F_Lv, 8), (R_Rp, F_Rp, 3), (R_Nd, F_Nd, 10), (R_Mo, F_Mo, 17)]
abbrev b_LR_init : ByteArray := prog_1_method_1_code
def y_LR_init : MethodName := ⟨R_LR, "<init>", "()V"⟩
abbrev b_Lv_init : ByteArray := prog_2_method_1_code
def y_Lv_init : MethodName := ⟨R_Lv, "<init>", "()V"⟩
abbrev b_Rp_init : ByteArray := prog_5_method_1_code
def y_Rp_init : MethodName := ⟨R_Rp, "<init>", "(LLevelRows$Levels;)V"⟩
abbrev b_Nd_init : ByteArray := prog_3_method_1_code
def y_Nd_init : MethodName := ⟨R_Nd, "<init>", "()V"⟩
abbrev b_LR_level : ByteArray := prog_1_method_6_code
def y_LR_level : MethodName := ⟨R_LR, "level", "(II)I"⟩
abbrev b_Lv_has : ByteArray := prog_2_method_3_code
def y_Lv_has : MethodName := ⟨R_Lv, "has", "(I)Z"⟩
abbrev b_Lv_detail : ByteArray := prog_2_method_4_code
def y_Lv_detail : MethodName := ⟨R_Lv, "detail", "(II)I"⟩
abbrev b_LR_value : ByteArray := prog_1_method_8_code
def y_LR_value : MethodName := ⟨R_LR, "value", "(IJ)I"⟩
abbrev b_Lv_valueFor : ByteArray := prog_2_method_14_code
def y_Lv_valueFor : MethodName := ⟨R_Lv, "valueFor", "(IJ)I"⟩
abbrev b_Lv_valueOf : ByteArray := prog_2_method_15_code
def y_Lv_valueOf : MethodName := ⟨R_Lv, "valueOf", "(IJ)I"⟩
abbrev b_LR_isSolved : ByteArray := prog_1_method_16_code
def y_LR_isSolved : MethodName := ⟨R_LR, "isSolved", "()Z"⟩
abbrev b_Nd_areSolved : ByteArray := prog_3_method_10_code
def y_Nd_areSolved : MethodName := ⟨R_Nd, "areSolved", "()Z"⟩
abbrev b_Nd_keepAll : ByteArray := prog_3_method_13_code
def y_Nd_keepAll : MethodName := ⟨R_Nd, "keepAll", "()V"⟩
abbrev b_Nd_canKeptBeSolved : ByteArray := prog_3_method_15_code
def y_Nd_canKeptBeSolved : MethodName := ⟨R_Nd, "canKeptBeSolved", "()Z"⟩
abbrev b_Ar_fill : ByteArray := prog_16_method_103_code
def y_Ar_fill : MethodName := ⟨R_Ar, "fill", "([II)V"⟩
abbrev b_Nd_raiseNumbers : ByteArray := prog_3_method_16_code
def y_Nd_raiseNumbers : MethodName := ⟨R_Nd, "raiseNumbers", "()Z"⟩
abbrev b_LR_solution : ByteArray := prog_1_method_17_code
def y_LR_solution : MethodName := ⟨R_LR, "solution", "(I)I"⟩
abbrev b_Nd_leastNumber : ByteArray := prog_3_method_11_code
def y_Nd_leastNumber : MethodName := ⟨R_Nd, "leastNumber", "(I)I"⟩
abbrev b_Nd_isUnknown : ByteArray := prog_3_method_5_code
def y_Nd_isUnknown : MethodName := ⟨R_Nd, "isUnknown", "(I)Z"⟩
abbrev b_LR_isClash : ByteArray := prog_1_method_18_code
def y_LR_isClash : MethodName := ⟨R_LR, "isClash", "(I)Z"⟩
abbrev b_Nd_isInClash : ByteArray := prog_3_method_12_code
def y_Nd_isInClash : MethodName := ⟨R_Nd, "isInClash", "(I)Z"⟩
abbrev b_Nd_keepClashOnly : ByteArray := prog_3_method_14_code
def y_Nd_keepClashOnly : MethodName := ⟨R_Nd, "keepClashOnly", "()V"⟩
abbrev b_LR_undo : ByteArray := prog_1_method_19_code
def y_LR_undo : MethodName := ⟨R_LR, "undo", "()Z"⟩
abbrev b_Nd_removeLatest : ByteArray := prog_3_method_8_code
def y_Nd_removeLatest : MethodName := ⟨R_Nd, "removeLatest", "()Z"⟩
abbrev b_Nd_forget : ByteArray := prog_3_method_9_code
def y_Nd_forget : MethodName := ⟨R_Nd, "forget", "()V"⟩
abbrev b_LR_about : ByteArray := prog_1_method_20_code
def y_LR_about : MethodName := ⟨R_LR, "about", "(I)I"⟩
abbrev b_Lv_size : ByteArray := prog_2_method_2_code
def y_Lv_size : MethodName := ⟨R_Lv, "size", "()I"⟩
abbrev b_Nd_unknowns : ByteArray := prog_3_method_2_code
def y_Nd_unknowns : MethodName := ⟨R_Nd, "unknowns", "()I"⟩
abbrev b_Nd_size : ByteArray := prog_3_method_3_code
def y_Nd_size : MethodName := ⟨R_Nd, "size", "()I"⟩
abbrev b_Law_zero : ByteArray := method_3_code
def y_Law_zero : MethodName := ⟨R_Law, "zero", "(LLevelRows;[J)I"⟩
abbrev b_LR_zero : ByteArray := prog_1_method_2_code
def y_LR_zero : MethodName := ⟨R_LR, "zero", "()I"⟩
abbrev b_Lv_made : ByteArray := prog_2_method_7_code
def y_Lv_made : MethodName := ⟨R_Lv, "made", "(III)I"⟩
abbrev b_Lv_find : ByteArray := prog_2_method_8_code
def y_Lv_find : MethodName := ⟨R_Lv, "find", "(III)I"⟩
abbrev b_Lv_checkNew : ByteArray := prog_2_method_9_code
def y_Lv_checkNew : MethodName := ⟨R_Lv, "checkNew", "(II)V"⟩
abbrev b_Lv_nextsOf : ByteArray := prog_2_method_10_code
def y_Lv_nextsOf : MethodName := ⟨R_Lv, "nextsOf", "(I)I"⟩
abbrev b_Lv_usesOf : ByteArray := prog_2_method_11_code
def y_Lv_usesOf : MethodName := ⟨R_Lv, "usesOf", "(I)I"⟩
abbrev b_Lv_partsOf : ByteArray := prog_2_method_12_code
def y_Lv_partsOf : MethodName := ⟨R_Lv, "partsOf", "(II)J"⟩
abbrev b_Pt_only : ByteArray := prog_4_method_3_code
def y_Pt_only : MethodName := ⟨R_Pt, "only", "(II)J"⟩
abbrev b_Lv_partsIn : ByteArray := prog_2_method_13_code
def y_Lv_partsIn : MethodName := ⟨R_Lv, "partsIn", "(II)J"⟩
abbrev b_Pt_raised : ByteArray := prog_4_method_4_code
def y_Pt_raised : MethodName := ⟨R_Pt, "raised", "(J)J"⟩
abbrev b_Pt_at : ByteArray := prog_4_method_2_code
def y_Pt_at : MethodName := ⟨R_Pt, "at", "(JI)I"⟩
abbrev b_Pt_joined : ByteArray := prog_4_method_5_code
def y_Pt_joined : MethodName := ⟨R_Pt, "joined", "(JJ)J"⟩
abbrev b_Pt_vanish : ByteArray := prog_4_method_6_code
def y_Pt_vanish : MethodName := ⟨R_Pt, "vanish", "(J)Z"⟩
abbrev b_Law_parameter : ByteArray := method_4_code
def y_Law_parameter : MethodName := ⟨R_Law, "parameter", "(LLevelRows;I[J)I"⟩
abbrev b_LR_parameter : ByteArray := prog_1_method_3_code
def y_LR_parameter : MethodName := ⟨R_LR, "parameter", "(I)I"⟩
abbrev b_LR_checkParameter : ByteArray := prog_1_method_22_code
def y_LR_checkParameter : MethodName := ⟨R_LR, "checkParameter", "(I)V"⟩
abbrev b_Law_next : ByteArray := method_5_code
def y_Law_next : MethodName := ⟨R_Law, "next", "(LLevelRows;I[J)I"⟩
abbrev b_LR_next : ByteArray := prog_1_method_4_code
def y_LR_next : MethodName := ⟨R_LR, "next", "(I)I"⟩
abbrev b_LR_checkLevel : ByteArray := prog_1_method_21_code
def y_LR_checkLevel : MethodName := ⟨R_LR, "checkLevel", "(I)V"⟩
abbrev b_Law_join : ByteArray := method_6_code
def y_Law_join : MethodName := ⟨R_Law, "join", "(LLevelRows;IIZ[J)I"⟩
abbrev b_LR_join : ByteArray := prog_1_method_5_code
def y_LR_join : MethodName := ⟨R_LR, "join", "(IIZ)I"⟩
abbrev b_Law_put : ByteArray := method_7_code
def y_Law_put : MethodName := ⟨R_Law, "put", "(LLevelRows;III[J)I"⟩
abbrev b_LR_put : ByteArray := prog_1_method_7_code
def y_LR_put : MethodName := ⟨R_LR, "put", "(III)I"⟩
abbrev b_Rp_replaced : ByteArray := prog_5_method_2_code
def y_Rp_replaced : MethodName := ⟨R_Rp, "replaced", "(III)I"⟩
abbrev b_Rp_resultAhead : ByteArray := prog_5_method_3_code
def y_Rp_resultAhead : MethodName := ⟨R_Rp, "resultAhead", "(III)I"⟩
abbrev b_Lv_usesParameter : ByteArray := prog_2_method_6_code
def y_Lv_usesParameter : MethodName := ⟨R_Lv, "usesParameter", "(II)Z"⟩
abbrev b_Lv_isParameter : ByteArray := prog_2_method_5_code
def y_Lv_isParameter : MethodName := ⟨R_Lv, "isParameter", "(II)Z"⟩
abbrev b_Rp_missingPart : ByteArray := prog_5_method_4_code
def y_Rp_missingPart : MethodName := ⟨R_Rp, "missingPart", "(I)I"⟩
abbrev b_Rp_remade : ByteArray := prog_5_method_5_code
def y_Rp_remade : MethodName := ⟨R_Rp, "remade", "(I)I"⟩
abbrev b_Law_part : ByteArray := method_8_code
def y_Law_part : MethodName := ⟨R_Law, "part", "(LLevelRows;III[J)I"⟩
abbrev b_LR_part : ByteArray := prog_1_method_9_code
def y_LR_part : MethodName := ⟨R_LR, "part", "(III)I"⟩
abbrev b_Law_isAtMost : ByteArray := method_9_code
def y_Law_isAtMost : MethodName := ⟨R_Law, "isAtMost", "(LLevelRows;II[J)I"⟩
abbrev b_LR_isAtMost : ByteArray := prog_1_method_10_code
def y_LR_isAtMost : MethodName := ⟨R_LR, "isAtMost", "(II)Z"⟩
abbrev b_Lv_firstRegionAbove : ByteArray := prog_2_method_16_code
def y_Lv_firstRegionAbove : MethodName := ⟨R_Lv, "firstRegionAbove", "(II)I"⟩
abbrev b_Pt_areAtMost : ByteArray := prog_4_method_9_code
def y_Pt_areAtMost : MethodName := ⟨R_Pt, "areAtMost", "(JJ)Z"⟩
abbrev b_Pt_lastHigher : ByteArray := prog_4_method_8_code
def y_Pt_lastHigher : MethodName := ⟨R_Pt, "lastHigher", "(JJ)I"⟩
abbrev b_Pt_valueAtOnes : ByteArray := prog_4_method_7_code
def y_Pt_valueAtOnes : MethodName := ⟨R_Pt, "valueAtOnes", "(J)I"⟩
abbrev b_Law_isSame : ByteArray := method_10_code
def y_Law_isSame : MethodName := ⟨R_Law, "isSame", "(LLevelRows;II[J)I"⟩
abbrev b_LR_isSame : ByteArray := prog_1_method_11_code
def y_LR_isSame : MethodName := ⟨R_LR, "isSame", "(II)Z"⟩
abbrev b_Lv_haveSameParts : ByteArray := prog_2_method_17_code
def y_Lv_haveSameParts : MethodName := ⟨R_Lv, "haveSameParts", "(II)Z"⟩
abbrev b_Law_least : ByteArray := method_11_code
def y_Law_least : MethodName := ⟨R_Law, "least", "(LLevelRows;I[J)I"⟩
abbrev b_LR_least : ByteArray := prog_1_method_12_code
def y_LR_least : MethodName := ⟨R_LR, "least", "(I)I"⟩
abbrev b_Lv_leastLike : ByteArray := prog_2_method_18_code
def y_Lv_leastLike : MethodName := ⟨R_Lv, "leastLike", "(I)I"⟩
abbrev b_Law_above : ByteArray := method_12_code
def y_Law_above : MethodName := ⟨R_Law, "above", "(LLevelRows;II[J)I"⟩
abbrev b_LR_above : ByteArray := prog_1_method_13_code
def y_LR_above : MethodName := ⟨R_LR, "above", "(II)J"⟩
abbrev b_Pt_pointAbove : ByteArray := prog_4_method_10_code
def y_Pt_pointAbove : MethodName := ⟨R_Pt, "pointAbove", "(JJI)J"⟩
abbrev b_Pt_onesOf : ByteArray := prog_4_method_11_code
def y_Pt_onesOf : MethodName := ⟨R_Pt, "onesOf", "(I)J"⟩
abbrev b_Law_unknown : ByteArray := method_13_code
def y_Law_unknown : MethodName := ⟨R_Law, "unknown", "(LLevelRows;[J)I"⟩
abbrev b_LR_unknown : ByteArray := prog_1_method_14_code
def y_LR_unknown : MethodName := ⟨R_LR, "unknown", "()I"⟩
abbrev b_Nd_addUnknown : ByteArray := prog_3_method_6_code
def y_Nd_addUnknown : MethodName := ⟨R_Nd, "addUnknown", "()I"⟩
abbrev b_Law_need : ByteArray := method_14_code
def y_Law_need : MethodName := ⟨R_Law, "need", "(LLevelRows;III[J)I"⟩
abbrev b_LR_need : ByteArray := prog_1_method_15_code
def y_LR_need : MethodName := ⟨R_LR, "need", "(III)I"⟩
abbrev b_Nd_isSide : ByteArray := prog_3_method_4_code
def y_Nd_isSide : MethodName := ⟨R_Nd, "isSide", "(I)Z"⟩
abbrev b_Nd_add : ByteArray := prog_3_method_7_code
def y_Nd_add : MethodName := ⟨R_Nd, "add", "(III)I"⟩
abbrev b_Mo_init : ByteArray := prog_7_method_1_code
def y_Mo_init : MethodName := ⟨R_Mo, "<init>", "()V"⟩
abbrev b_Mo_thrown : ByteArray := prog_7_method_2_code
def y_Mo_thrown : MethodName := ⟨R_Mo, "thrown", "()I"⟩
abbrev b_Mo_zero : ByteArray := prog_7_method_7_code
def y_Mo_zero : MethodName := ⟨R_Mo, "zero", "()I"⟩
abbrev b_Mo_made : ByteArray := prog_7_method_6_code
def y_Mo_made : MethodName := ⟨R_Mo, "made", "(IIII)I"⟩
abbrev b_Mo_make : ByteArray := prog_7_method_5_code
def y_Mo_make : MethodName := ⟨R_Mo, "make", "(III)I"⟩
abbrev b_Mo_parameter : ByteArray := prog_7_method_8_code
def y_Mo_parameter : MethodName := ⟨R_Mo, "parameter", "(I)I"⟩
abbrev b_Mo_refuses : ByteArray := prog_7_method_4_code
def y_Mo_refuses : MethodName := ⟨R_Mo, "refuses", "(I)Z"⟩
abbrev b_Mo_next : ByteArray := prog_7_method_9_code
def y_Mo_next : MethodName := ⟨R_Mo, "next", "(I)I"⟩
abbrev b_Mo_isLevel : ByteArray := prog_7_method_3_code
def y_Mo_isLevel : MethodName := ⟨R_Mo, "isLevel", "(I)Z"⟩
abbrev b_Mo_join : ByteArray := prog_7_method_10_code
def y_Mo_join : MethodName := ⟨R_Mo, "join", "(IIZ)I"⟩
abbrev b_Mo_level : ByteArray := prog_7_method_11_code
def y_Mo_level : MethodName := ⟨R_Mo, "level", "(II)I"⟩
abbrev b_Mo_put : ByteArray := prog_7_method_12_code
def y_Mo_put : MethodName := ⟨R_Mo, "put", "(III)I"⟩
abbrev b_Mo_changed : ByteArray := prog_7_method_13_code
def y_Mo_changed : MethodName := ⟨R_Mo, "changed", "(IIIII)I"⟩
abbrev b_Mo_value : ByteArray := prog_7_method_15_code
def y_Mo_value : MethodName := ⟨R_Mo, "value", "(IJ)I"⟩
abbrev b_Mo_reckon : ByteArray := prog_7_method_14_code
def y_Mo_reckon : MethodName := ⟨R_Mo, "reckon", "()V"⟩
abbrev b_Mo_part : ByteArray := prog_7_method_18_code
def y_Mo_part : MethodName := ⟨R_Mo, "part", "(III)I"⟩
abbrev b_Mo_growth : ByteArray := prog_7_method_17_code
def y_Mo_growth : MethodName := ⟨R_Mo, "growth", "(III)I"⟩
abbrev b_Mo_rest : ByteArray := prog_7_method_16_code
def y_Mo_rest : MethodName := ⟨R_Mo, "rest", "(III)V"⟩
abbrev b_Mo_isAtMost : ByteArray := prog_7_method_22_code
def y_Mo_isAtMost : MethodName := ⟨R_Mo, "isAtMost", "(II)Z"⟩
abbrev b_Mo_regionOf : ByteArray := prog_7_method_20_code
def y_Mo_regionOf : MethodName := ⟨R_Mo, "regionOf", "(II)I"⟩
abbrev b_Mo_goesOn : ByteArray := prog_7_method_19_code
def y_Mo_goesOn : MethodName := ⟨R_Mo, "goesOn", "(IIII)Z"⟩
abbrev b_Mo_isSame : ByteArray := prog_7_method_23_code
def y_Mo_isSame : MethodName := ⟨R_Mo, "isSame", "(II)Z"⟩
abbrev b_Mo_isSameLevel : ByteArray := prog_7_method_21_code
def y_Mo_isSameLevel : MethodName := ⟨R_Mo, "isSameLevel", "(II)Z"⟩
abbrev b_Mo_least : ByteArray := prog_7_method_24_code
def y_Mo_least : MethodName := ⟨R_Mo, "least", "(I)I"⟩
abbrev b_Mo_above : ByteArray := prog_7_method_25_code
def y_Mo_above : MethodName := ⟨R_Mo, "above", "(II)J"⟩
abbrev b_Mo_unknown : ByteArray := prog_7_method_27_code
def y_Mo_unknown : MethodName := ⟨R_Mo, "unknown", "()I"⟩
abbrev b_Mo_need : ByteArray := prog_7_method_28_code
def y_Mo_need : MethodName := ⟨R_Mo, "need", "(III)I"⟩
abbrev b_Mo_isSide : ByteArray := prog_7_method_26_code
def y_Mo_isSide : MethodName := ⟨R_Mo, "isSide", "(I)Z"⟩
abbrev b_Mo_isSolved : ByteArray := prog_7_method_31_code
def y_Mo_isSolved : MethodName := ⟨R_Mo, "isSolved", "()Z"⟩
abbrev b_Mo_solvesAll : ByteArray := prog_7_method_30_code
def y_Mo_solvesAll : MethodName := ⟨R_Mo, "solvesAll", "()Z"⟩
abbrev b_Mo_solves : ByteArray := prog_7_method_29_code
def y_Mo_solves : MethodName := ⟨R_Mo, "solves", "()Z"⟩
abbrev b_Mo_solution : ByteArray := prog_7_method_32_code
def y_Mo_solution : MethodName := ⟨R_Mo, "solution", "(I)I"⟩
abbrev b_Mo_isClash : ByteArray := prog_7_method_33_code
def y_Mo_isClash : MethodName := ⟨R_Mo, "isClash", "(I)Z"⟩
abbrev b_Mo_undo : ByteArray := prog_7_method_34_code
def y_Mo_undo : MethodName := ⟨R_Mo, "undo", "()Z"⟩
abbrev b_Mo_about : ByteArray := prog_7_method_35_code
def y_Mo_about : MethodName := ⟨R_Mo, "about", "(I)I"⟩
end
section
abbrev cw_LR_init : Cond := .code y_LR_init b_LR_init 1 none
set_option maxRecDepth 100000 in
theorem mc_LR_init : cw_LR_init ∈ tb := tb_t (List.mem_of_getElem? (i := 19) (by rfl)) rfl
abbrev cw_Lv_init : Cond := .code y_Lv_init b_Lv_init 1 none
set_option maxRecDepth 100000 in
theorem mc_Lv_init : cw_Lv_init ∈ tb := tb_t (List.mem_of_getElem? (i := 27) (by rfl)) rfl
abbrev cw_Rp_init : Cond := .code y_Rp_init b_Rp_init 2 none
set_option maxRecDepth 100000 in
theorem mc_Rp_init : cw_Rp_init ∈ tb := tb_t (List.mem_of_getElem? (i := 60) (by rfl)) rfl
abbrev cw_Nd_init : Cond := .code y_Nd_init b_Nd_init 1 none
set_option maxRecDepth 100000 in
theorem mc_Nd_init : cw_Nd_init ∈ tb := tb_t (List.mem_of_getElem? (i := 76) (by rfl)) rfl
abbrev cw_LR_level : Cond := .code y_LR_level b_LR_level 3 (some .int)
set_option maxRecDepth 100000 in
theorem mc_LR_level : cw_LR_level ∈ tb := tb_t (List.mem_of_getElem? (i := 123) (by rfl)) rfl
abbrev cw_Lv_has : Cond := .code y_Lv_has b_Lv_has 2 (some .boolean)
set_option maxRecDepth 100000 in
theorem mc_Lv_has : cw_Lv_has ∈ tb := tb_t (List.mem_of_getElem? (i := 127) (by rfl)) rfl
abbrev cw_Lv_detail : Cond := .code y_Lv_detail b_Lv_detail 3 (some .int)
set_option maxRecDepth 100000 in
theorem mc_Lv_detail : cw_Lv_detail ∈ tb := tb_t (List.mem_of_getElem? (i := 131) (by rfl)) rfl
abbrev cw_LR_value : Cond := .code y_LR_value b_LR_value 4 (some .int)
set_option maxRecDepth 100000 in
theorem mc_LR_value : cw_LR_value ∈ tb := tb_t (List.mem_of_getElem? (i := 135) (by rfl)) rfl
abbrev cw_Lv_valueFor : Cond := .code y_Lv_valueFor b_Lv_valueFor 5 (some .int)
set_option maxRecDepth 100000 in
theorem mc_Lv_valueFor : cw_Lv_valueFor ∈ tb := tb_t (List.mem_of_getElem? (i := 139) (by rfl)) rfl
abbrev cw_Lv_valueOf : Cond := .code y_Lv_valueOf b_Lv_valueOf 5 (some .int)
set_option maxRecDepth 100000 in
theorem mc_Lv_valueOf : cw_Lv_valueOf ∈ tb := tb_t (List.mem_of_getElem? (i := 143) (by rfl)) rfl
abbrev cw_LR_isSolved : Cond := .code y_LR_isSolved b_LR_isSolved 1 (some .boolean)
set_option maxRecDepth 100000 in
theorem mc_LR_isSolved : cw_LR_isSolved ∈ tb := tb_t (List.mem_of_getElem? (i := 150) (by rfl)) rfl
abbrev cw_Nd_areSolved : Cond := .code y_Nd_areSolved b_Nd_areSolved 1 (some .boolean)
set_option maxRecDepth 100000 in
theorem mc_Nd_areSolved : cw_Nd_areSolved ∈ tb := tb_t (List.mem_of_getElem? (i := 154) (by rfl)) rfl
abbrev cw_Nd_keepAll : Cond := .code y_Nd_keepAll b_Nd_keepAll 2 none
set_option maxRecDepth 100000 in
theorem mc_Nd_keepAll : cw_Nd_keepAll ∈ tb := tb_t (List.mem_of_getElem? (i := 158) (by rfl)) rfl
abbrev cw_Nd_canKeptBeSolved : Cond := .code y_Nd_canKeptBeSolved b_Nd_canKeptBeSolved 2 (some .boolean)
set_option maxRecDepth 100000 in
theorem mc_Nd_canKeptBeSolved : cw_Nd_canKeptBeSolved ∈ tb := tb_t (List.mem_of_getElem? (i := 162) (by rfl)) rfl
abbrev cw_Ar_fill : Cond := .code y_Ar_fill b_Ar_fill 4 none
set_option maxRecDepth 100000 in
theorem mc_Ar_fill : cw_Ar_fill ∈ tb := tb_t (List.mem_of_getElem? (i := 165) (by rfl)) rfl
abbrev cw_Nd_raiseNumbers : Cond := .code y_Nd_raiseNumbers b_Nd_raiseNumbers 4 (some .boolean)
set_option maxRecDepth 100000 in
theorem mc_Nd_raiseNumbers : cw_Nd_raiseNumbers ∈ tb := tb_t (List.mem_of_getElem? (i := 169) (by rfl)) rfl
abbrev cw_LR_solution : Cond := .code y_LR_solution b_LR_solution 2 (some .int)
set_option maxRecDepth 100000 in
theorem mc_LR_solution : cw_LR_solution ∈ tb := tb_t (List.mem_of_getElem? (i := 173) (by rfl)) rfl
abbrev cw_Nd_leastNumber : Cond := .code y_Nd_leastNumber b_Nd_leastNumber 2 (some .int)
set_option maxRecDepth 100000 in
theorem mc_Nd_leastNumber : cw_Nd_leastNumber ∈ tb := tb_t (List.mem_of_getElem? (i := 177) (by rfl)) rfl
abbrev cw_Nd_isUnknown : Cond := .code y_Nd_isUnknown b_Nd_isUnknown 2 (some .boolean)
set_option maxRecDepth 100000 in
theorem mc_Nd_isUnknown : cw_Nd_isUnknown ∈ tb := tb_t (List.mem_of_getElem? (i := 181) (by rfl)) rfl
abbrev cw_LR_isClash : Cond := .code y_LR_isClash b_LR_isClash 2 (some .boolean)
set_option maxRecDepth 100000 in
theorem mc_LR_isClash : cw_LR_isClash ∈ tb := tb_t (List.mem_of_getElem? (i := 186) (by rfl)) rfl
abbrev cw_Nd_isInClash : Cond := .code y_Nd_isInClash b_Nd_isInClash 2 (some .boolean)
set_option maxRecDepth 100000 in
theorem mc_Nd_isInClash : cw_Nd_isInClash ∈ tb := tb_t (List.mem_of_getElem? (i := 190) (by rfl)) rfl
abbrev cw_Nd_keepClashOnly : Cond := .code y_Nd_keepClashOnly b_Nd_keepClashOnly 2 none
set_option maxRecDepth 100000 in
theorem mc_Nd_keepClashOnly : cw_Nd_keepClashOnly ∈ tb := tb_t (List.mem_of_getElem? (i := 194) (by rfl)) rfl
abbrev cw_LR_undo : Cond := .code y_LR_undo b_LR_undo 1 (some .boolean)
set_option maxRecDepth 100000 in
theorem mc_LR_undo : cw_LR_undo ∈ tb := tb_t (List.mem_of_getElem? (i := 198) (by rfl)) rfl
abbrev cw_Nd_removeLatest : Cond := .code y_Nd_removeLatest b_Nd_removeLatest 1 (some .boolean)
set_option maxRecDepth 100000 in
theorem mc_Nd_removeLatest : cw_Nd_removeLatest ∈ tb := tb_t (List.mem_of_getElem? (i := 202) (by rfl)) rfl
abbrev cw_Nd_forget : Cond := .code y_Nd_forget b_Nd_forget 1 none
set_option maxRecDepth 100000 in
theorem mc_Nd_forget : cw_Nd_forget ∈ tb := tb_t (List.mem_of_getElem? (i := 206) (by rfl)) rfl
abbrev cw_LR_about : Cond := .code y_LR_about b_LR_about 2 (some .int)
set_option maxRecDepth 100000 in
theorem mc_LR_about : cw_LR_about ∈ tb := tb_t (List.mem_of_getElem? (i := 210) (by rfl)) rfl
abbrev cw_Lv_size : Cond := .code y_Lv_size b_Lv_size 1 (some .int)
set_option maxRecDepth 100000 in
theorem mc_Lv_size : cw_Lv_size ∈ tb := tb_t (List.mem_of_getElem? (i := 214) (by rfl)) rfl
abbrev cw_Nd_unknowns : Cond := .code y_Nd_unknowns b_Nd_unknowns 1 (some .int)
set_option maxRecDepth 100000 in
theorem mc_Nd_unknowns : cw_Nd_unknowns ∈ tb := tb_t (List.mem_of_getElem? (i := 218) (by rfl)) rfl
abbrev cw_Nd_size : Cond := .code y_Nd_size b_Nd_size 1 (some .int)
set_option maxRecDepth 100000 in
theorem mc_Nd_size : cw_Nd_size ∈ tb := tb_t (List.mem_of_getElem? (i := 222) (by rfl)) rfl
abbrev cw_Law_zero : Cond := .codeWith y_Law_zero b_Law_zero 3 (some .int) [(0, 8, 11, 13)]
set_option maxRecDepth 100000 in
theorem mc_Law_zero : cw_Law_zero ∈ tb := tb_t (List.mem_of_getElem? (i := 225) (by rfl)) rfl
abbrev cw_LR_zero : Cond := .code y_LR_zero b_LR_zero 1 (some .int)
set_option maxRecDepth 100000 in
theorem mc_LR_zero : cw_LR_zero ∈ tb := tb_t (List.mem_of_getElem? (i := 230) (by rfl)) rfl
abbrev cw_Lv_made : Cond := .code y_Lv_made b_Lv_made 7 (some .int)
set_option maxRecDepth 100000 in
theorem mc_Lv_made : cw_Lv_made ∈ tb := tb_t (List.mem_of_getElem? (i := 234) (by rfl)) rfl
abbrev cw_Lv_find : Cond := .code y_Lv_find b_Lv_find 5 (some .int)
set_option maxRecDepth 100000 in
theorem mc_Lv_find : cw_Lv_find ∈ tb := tb_t (List.mem_of_getElem? (i := 238) (by rfl)) rfl
abbrev cw_Lv_checkNew : Cond := .code y_Lv_checkNew b_Lv_checkNew 3 none
set_option maxRecDepth 100000 in
theorem mc_Lv_checkNew : cw_Lv_checkNew ∈ tb := tb_t (List.mem_of_getElem? (i := 242) (by rfl)) rfl
abbrev cw_Lv_nextsOf : Cond := .code y_Lv_nextsOf b_Lv_nextsOf 2 (some .int)
set_option maxRecDepth 100000 in
theorem mc_Lv_nextsOf : cw_Lv_nextsOf ∈ tb := tb_t (List.mem_of_getElem? (i := 330) (by rfl)) rfl
abbrev cw_Lv_usesOf : Cond := .code y_Lv_usesOf b_Lv_usesOf 2 (some .int)
set_option maxRecDepth 100000 in
theorem mc_Lv_usesOf : cw_Lv_usesOf ∈ tb := tb_t (List.mem_of_getElem? (i := 334) (by rfl)) rfl
abbrev cw_Lv_partsOf : Cond := .code y_Lv_partsOf b_Lv_partsOf 5 (some .long)
set_option maxRecDepth 100000 in
theorem mc_Lv_partsOf : cw_Lv_partsOf ∈ tb := tb_t (List.mem_of_getElem? (i := 338) (by rfl)) rfl
abbrev cw_Pt_only : Cond := .code y_Pt_only b_Pt_only 2 (some .long)
set_option maxRecDepth 100000 in
theorem mc_Pt_only : cw_Pt_only ∈ tb := tb_t (List.mem_of_getElem? (i := 341) (by rfl)) rfl
abbrev cw_Lv_partsIn : Cond := .code y_Lv_partsIn b_Lv_partsIn 3 (some .long)
set_option maxRecDepth 100000 in
theorem mc_Lv_partsIn : cw_Lv_partsIn ∈ tb := tb_t (List.mem_of_getElem? (i := 345) (by rfl)) rfl
abbrev cw_Pt_raised : Cond := .code y_Pt_raised b_Pt_raised 6 (some .long)
set_option maxRecDepth 100000 in
theorem mc_Pt_raised : cw_Pt_raised ∈ tb := tb_t (List.mem_of_getElem? (i := 348) (by rfl)) rfl
abbrev cw_Pt_at : Cond := .code y_Pt_at b_Pt_at 3 (some .int)
set_option maxRecDepth 100000 in
theorem mc_Pt_at : cw_Pt_at ∈ tb := tb_t (List.mem_of_getElem? (i := 351) (by rfl)) rfl
abbrev cw_Pt_joined : Cond := .code y_Pt_joined b_Pt_joined 9 (some .long)
set_option maxRecDepth 100000 in
theorem mc_Pt_joined : cw_Pt_joined ∈ tb := tb_t (List.mem_of_getElem? (i := 356) (by rfl)) rfl
abbrev cw_Pt_vanish : Cond := .code y_Pt_vanish b_Pt_vanish 2 (some .boolean)
set_option maxRecDepth 100000 in
theorem mc_Pt_vanish : cw_Pt_vanish ∈ tb := tb_t (List.mem_of_getElem? (i := 360) (by rfl)) rfl
abbrev cw_Law_parameter : Cond := .codeWith y_Law_parameter b_Law_parameter 4 (some .int) [(0, 9, 12, 19), (0, 9, 15, 13)]
set_option maxRecDepth 100000 in
theorem mc_Law_parameter : cw_Law_parameter ∈ tb := tb_t (List.mem_of_getElem? (i := 363) (by rfl)) rfl
abbrev cw_LR_parameter : Cond := .code y_LR_parameter b_LR_parameter 2 (some .int)
set_option maxRecDepth 100000 in
theorem mc_LR_parameter : cw_LR_parameter ∈ tb := tb_t (List.mem_of_getElem? (i := 368) (by rfl)) rfl
abbrev cw_LR_checkParameter : Cond := .code y_LR_checkParameter b_LR_checkParameter 1 none
set_option maxRecDepth 100000 in
theorem mc_LR_checkParameter : cw_LR_checkParameter ∈ tb := tb_t (List.mem_of_getElem? (i := 371) (by rfl)) rfl
abbrev cw_Law_next : Cond := .codeWith y_Law_next b_Law_next 4 (some .int) [(0, 9, 12, 19), (0, 9, 15, 24), (0, 9, 18, 13)]
set_option maxRecDepth 100000 in
theorem mc_Law_next : cw_Law_next ∈ tb := tb_t (List.mem_of_getElem? (i := 390) (by rfl)) rfl
abbrev cw_LR_next : Cond := .code y_LR_next b_LR_next 2 (some .int)
set_option maxRecDepth 100000 in
theorem mc_LR_next : cw_LR_next ∈ tb := tb_t (List.mem_of_getElem? (i := 395) (by rfl)) rfl
abbrev cw_LR_checkLevel : Cond := .code y_LR_checkLevel b_LR_checkLevel 2 none
set_option maxRecDepth 100000 in
theorem mc_LR_checkLevel : cw_LR_checkLevel ∈ tb := tb_t (List.mem_of_getElem? (i := 399) (by rfl)) rfl
abbrev cw_Law_join : Cond := .codeWith y_Law_join b_Law_join 6 (some .int) [(0, 12, 15, 19), (0, 12, 19, 13)]
set_option maxRecDepth 100000 in
theorem mc_Law_join : cw_Law_join ∈ tb := tb_t (List.mem_of_getElem? (i := 403) (by rfl)) rfl
abbrev cw_LR_join : Cond := .code y_LR_join b_LR_join 4 (some .int)
set_option maxRecDepth 100000 in
theorem mc_LR_join : cw_LR_join ∈ tb := tb_t (List.mem_of_getElem? (i := 407) (by rfl)) rfl
abbrev cw_Law_put : Cond := .codeWith y_Law_put b_Law_put 6 (some .int) [(0, 12, 15, 19), (0, 12, 19, 24), (0, 12, 23, 13)]
set_option maxRecDepth 100000 in
theorem mc_Law_put : cw_Law_put ∈ tb := tb_t (List.mem_of_getElem? (i := 410) (by rfl)) rfl
abbrev cw_LR_put : Cond := .code y_LR_put b_LR_put 4 (some .int)
set_option maxRecDepth 100000 in
theorem mc_LR_put : cw_LR_put ∈ tb := tb_t (List.mem_of_getElem? (i := 414) (by rfl)) rfl
abbrev cw_Rp_replaced : Cond := .code y_Rp_replaced b_Rp_replaced 8 (some .int)
set_option maxRecDepth 100000 in
theorem mc_Rp_replaced : cw_Rp_replaced ∈ tb := tb_t (List.mem_of_getElem? (i := 418) (by rfl)) rfl
abbrev cw_Rp_resultAhead : Cond := .code y_Rp_resultAhead b_Rp_resultAhead 4 (some .int)
set_option maxRecDepth 100000 in
theorem mc_Rp_resultAhead : cw_Rp_resultAhead ∈ tb := tb_t (List.mem_of_getElem? (i := 422) (by rfl)) rfl
abbrev cw_Lv_usesParameter : Cond := .code y_Lv_usesParameter b_Lv_usesParameter 3 (some .boolean)
set_option maxRecDepth 100000 in
theorem mc_Lv_usesParameter : cw_Lv_usesParameter ∈ tb := tb_t (List.mem_of_getElem? (i := 426) (by rfl)) rfl
abbrev cw_Lv_isParameter : Cond := .code y_Lv_isParameter b_Lv_isParameter 3 (some .boolean)
set_option maxRecDepth 100000 in
theorem mc_Lv_isParameter : cw_Lv_isParameter ∈ tb := tb_t (List.mem_of_getElem? (i := 430) (by rfl)) rfl
abbrev cw_Rp_missingPart : Cond := .code y_Rp_missingPart b_Rp_missingPart 4 (some .int)
set_option maxRecDepth 100000 in
theorem mc_Rp_missingPart : cw_Rp_missingPart ∈ tb := tb_t (List.mem_of_getElem? (i := 434) (by rfl)) rfl
abbrev cw_Rp_remade : Cond := .code y_Rp_remade b_Rp_remade 4 (some .int)
set_option maxRecDepth 100000 in
theorem mc_Rp_remade : cw_Rp_remade ∈ tb := tb_t (List.mem_of_getElem? (i := 439) (by rfl)) rfl
abbrev cw_Law_part : Cond := .codeWith y_Law_part b_Law_part 6 (some .int) [(0, 12, 15, 19)]
set_option maxRecDepth 100000 in
theorem mc_Law_part : cw_Law_part ∈ tb := tb_t (List.mem_of_getElem? (i := 443) (by rfl)) rfl
abbrev cw_LR_part : Cond := .code y_LR_part b_LR_part 4 (some .int)
set_option maxRecDepth 100000 in
theorem mc_LR_part : cw_LR_part ∈ tb := tb_t (List.mem_of_getElem? (i := 447) (by rfl)) rfl
abbrev cw_Law_isAtMost : Cond := .codeWith y_Law_isAtMost b_Law_isAtMost 5 (some .int) [(0, 17, 20, 19)]
set_option maxRecDepth 100000 in
theorem mc_Law_isAtMost : cw_Law_isAtMost ∈ tb := tb_t (List.mem_of_getElem? (i := 453) (by rfl)) rfl
abbrev cw_LR_isAtMost : Cond := .code y_LR_isAtMost b_LR_isAtMost 3 (some .boolean)
set_option maxRecDepth 100000 in
theorem mc_LR_isAtMost : cw_LR_isAtMost ∈ tb := tb_t (List.mem_of_getElem? (i := 457) (by rfl)) rfl
abbrev cw_Lv_firstRegionAbove : Cond := .code y_Lv_firstRegionAbove b_Lv_firstRegionAbove 4 (some .int)
set_option maxRecDepth 100000 in
theorem mc_Lv_firstRegionAbove : cw_Lv_firstRegionAbove ∈ tb := tb_t (List.mem_of_getElem? (i := 461) (by rfl)) rfl
abbrev cw_Pt_areAtMost : Cond := .code y_Pt_areAtMost b_Pt_areAtMost 4 (some .boolean)
set_option maxRecDepth 100000 in
theorem mc_Pt_areAtMost : cw_Pt_areAtMost ∈ tb := tb_t (List.mem_of_getElem? (i := 464) (by rfl)) rfl
abbrev cw_Pt_lastHigher : Cond := .code y_Pt_lastHigher b_Pt_lastHigher 5 (some .int)
set_option maxRecDepth 100000 in
theorem mc_Pt_lastHigher : cw_Pt_lastHigher ∈ tb := tb_t (List.mem_of_getElem? (i := 467) (by rfl)) rfl
abbrev cw_Pt_valueAtOnes : Cond := .code y_Pt_valueAtOnes b_Pt_valueAtOnes 4 (some .int)
set_option maxRecDepth 100000 in
theorem mc_Pt_valueAtOnes : cw_Pt_valueAtOnes ∈ tb := tb_t (List.mem_of_getElem? (i := 470) (by rfl)) rfl
abbrev cw_Law_isSame : Cond := .codeWith y_Law_isSame b_Law_isSame 5 (some .int) [(0, 17, 20, 19)]
set_option maxRecDepth 100000 in
theorem mc_Law_isSame : cw_Law_isSame ∈ tb := tb_t (List.mem_of_getElem? (i := 473) (by rfl)) rfl
abbrev cw_LR_isSame : Cond := .code y_LR_isSame b_LR_isSame 3 (some .boolean)
set_option maxRecDepth 100000 in
theorem mc_LR_isSame : cw_LR_isSame ∈ tb := tb_t (List.mem_of_getElem? (i := 477) (by rfl)) rfl
abbrev cw_Lv_haveSameParts : Cond := .code y_Lv_haveSameParts b_Lv_haveSameParts 4 (some .boolean)
set_option maxRecDepth 100000 in
theorem mc_Lv_haveSameParts : cw_Lv_haveSameParts ∈ tb := tb_t (List.mem_of_getElem? (i := 481) (by rfl)) rfl
abbrev cw_Law_least : Cond := .codeWith y_Law_least b_Law_least 4 (some .int) [(0, 9, 12, 19)]
set_option maxRecDepth 100000 in
theorem mc_Law_least : cw_Law_least ∈ tb := tb_t (List.mem_of_getElem? (i := 484) (by rfl)) rfl
abbrev cw_LR_least : Cond := .code y_LR_least b_LR_least 2 (some .int)
set_option maxRecDepth 100000 in
theorem mc_LR_least : cw_LR_least ∈ tb := tb_t (List.mem_of_getElem? (i := 488) (by rfl)) rfl
abbrev cw_Lv_leastLike : Cond := .code y_Lv_leastLike b_Lv_leastLike 3 (some .int)
set_option maxRecDepth 100000 in
theorem mc_Lv_leastLike : cw_Lv_leastLike ∈ tb := tb_t (List.mem_of_getElem? (i := 492) (by rfl)) rfl
abbrev cw_Law_above : Cond := .codeWith y_Law_above b_Law_above 5 (some .int) [(0, 9, 12, 19)]
set_option maxRecDepth 100000 in
theorem mc_Law_above : cw_Law_above ∈ tb := tb_t (List.mem_of_getElem? (i := 496) (by rfl)) rfl
abbrev cw_LR_above : Cond := .code y_LR_above b_LR_above 4 (some .long)
set_option maxRecDepth 100000 in
theorem mc_LR_above : cw_LR_above ∈ tb := tb_t (List.mem_of_getElem? (i := 500) (by rfl)) rfl
abbrev cw_Pt_pointAbove : Cond := .code y_Pt_pointAbove b_Pt_pointAbove 9 (some .long)
set_option maxRecDepth 100000 in
theorem mc_Pt_pointAbove : cw_Pt_pointAbove ∈ tb := tb_t (List.mem_of_getElem? (i := 504) (by rfl)) rfl
abbrev cw_Pt_onesOf : Cond := .code y_Pt_onesOf b_Pt_onesOf 4 (some .long)
set_option maxRecDepth 100000 in
theorem mc_Pt_onesOf : cw_Pt_onesOf ∈ tb := tb_t (List.mem_of_getElem? (i := 507) (by rfl)) rfl
abbrev cw_Law_unknown : Cond := .codeWith y_Law_unknown b_Law_unknown 3 (some .int) [(0, 8, 11, 13)]
set_option maxRecDepth 100000 in
theorem mc_Law_unknown : cw_Law_unknown ∈ tb := tb_t (List.mem_of_getElem? (i := 510) (by rfl)) rfl
abbrev cw_LR_unknown : Cond := .code y_LR_unknown b_LR_unknown 1 (some .int)
set_option maxRecDepth 100000 in
theorem mc_LR_unknown : cw_LR_unknown ∈ tb := tb_t (List.mem_of_getElem? (i := 514) (by rfl)) rfl
abbrev cw_Nd_addUnknown : Cond := .code y_Nd_addUnknown b_Nd_addUnknown 1 (some .int)
set_option maxRecDepth 100000 in
theorem mc_Nd_addUnknown : cw_Nd_addUnknown ∈ tb := tb_t (List.mem_of_getElem? (i := 521) (by rfl)) rfl
abbrev cw_Law_need : Cond := .codeWith y_Law_need b_Law_need 6 (some .int) [(0, 12, 15, 19), (0, 12, 19, 24), (0, 12, 23, 13)]
set_option maxRecDepth 100000 in
theorem mc_Law_need : cw_Law_need ∈ tb := tb_t (List.mem_of_getElem? (i := 524) (by rfl)) rfl
abbrev cw_LR_need : Cond := .code y_LR_need b_LR_need 4 (some .int)
set_option maxRecDepth 100000 in
theorem mc_LR_need : cw_LR_need ∈ tb := tb_t (List.mem_of_getElem? (i := 528) (by rfl)) rfl
abbrev cw_Nd_isSide : Cond := .code y_Nd_isSide b_Nd_isSide 2 (some .boolean)
set_option maxRecDepth 100000 in
theorem mc_Nd_isSide : cw_Nd_isSide ∈ tb := tb_t (List.mem_of_getElem? (i := 532) (by rfl)) rfl
abbrev cw_Nd_add : Cond := .code y_Nd_add b_Nd_add 4 (some .int)
set_option maxRecDepth 100000 in
theorem mc_Nd_add : cw_Nd_add ∈ tb := tb_t (List.mem_of_getElem? (i := 541) (by rfl)) rfl
abbrev cw_Mo_init : Cond := .code y_Mo_init b_Mo_init 1 none
set_option maxRecDepth 100000 in
theorem mc_Mo_init : cw_Mo_init ∈ tb := tb_t (List.mem_of_getElem? (i := 546) (by rfl)) rfl
abbrev cw_Mo_thrown : Cond := .code y_Mo_thrown b_Mo_thrown 1 (some .int)
set_option maxRecDepth 100000 in
theorem mc_Mo_thrown : cw_Mo_thrown ∈ tb := tb_t (List.mem_of_getElem? (i := 603) (by rfl)) rfl
abbrev cw_Mo_zero : Cond := .code y_Mo_zero b_Mo_zero 1 (some .int)
set_option maxRecDepth 100000 in
theorem mc_Mo_zero : cw_Mo_zero ∈ tb := tb_t (List.mem_of_getElem? (i := 607) (by rfl)) rfl
abbrev cw_Mo_made : Cond := .code y_Mo_made b_Mo_made 6 (some .int)
set_option maxRecDepth 100000 in
theorem mc_Mo_made : cw_Mo_made ∈ tb := tb_t (List.mem_of_getElem? (i := 611) (by rfl)) rfl
abbrev cw_Mo_make : Cond := .code y_Mo_make b_Mo_make 5 (some .int)
set_option maxRecDepth 100000 in
theorem mc_Mo_make : cw_Mo_make ∈ tb := tb_t (List.mem_of_getElem? (i := 615) (by rfl)) rfl
abbrev cw_Mo_parameter : Cond := .code y_Mo_parameter b_Mo_parameter 2 (some .int)
set_option maxRecDepth 100000 in
theorem mc_Mo_parameter : cw_Mo_parameter ∈ tb := tb_t (List.mem_of_getElem? (i := 619) (by rfl)) rfl
abbrev cw_Mo_refuses : Cond := .code y_Mo_refuses b_Mo_refuses 2 (some .boolean)
set_option maxRecDepth 100000 in
theorem mc_Mo_refuses : cw_Mo_refuses ∈ tb := tb_t (List.mem_of_getElem? (i := 623) (by rfl)) rfl
abbrev cw_Mo_next : Cond := .code y_Mo_next b_Mo_next 2 (some .int)
set_option maxRecDepth 100000 in
theorem mc_Mo_next : cw_Mo_next ∈ tb := tb_t (List.mem_of_getElem? (i := 627) (by rfl)) rfl
abbrev cw_Mo_isLevel : Cond := .code y_Mo_isLevel b_Mo_isLevel 2 (some .boolean)
set_option maxRecDepth 100000 in
theorem mc_Mo_isLevel : cw_Mo_isLevel ∈ tb := tb_t (List.mem_of_getElem? (i := 631) (by rfl)) rfl
abbrev cw_Mo_join : Cond := .code y_Mo_join b_Mo_join 4 (some .int)
set_option maxRecDepth 100000 in
theorem mc_Mo_join : cw_Mo_join ∈ tb := tb_t (List.mem_of_getElem? (i := 635) (by rfl)) rfl
abbrev cw_Mo_level : Cond := .code y_Mo_level b_Mo_level 3 (some .int)
set_option maxRecDepth 100000 in
theorem mc_Mo_level : cw_Mo_level ∈ tb := tb_t (List.mem_of_getElem? (i := 639) (by rfl)) rfl
abbrev cw_Mo_put : Cond := .code y_Mo_put b_Mo_put 8 (some .int)
set_option maxRecDepth 100000 in
theorem mc_Mo_put : cw_Mo_put ∈ tb := tb_t (List.mem_of_getElem? (i := 643) (by rfl)) rfl
abbrev cw_Mo_changed : Cond := .code y_Mo_changed b_Mo_changed 8 (some .int)
set_option maxRecDepth 100000 in
theorem mc_Mo_changed : cw_Mo_changed ∈ tb := tb_t (List.mem_of_getElem? (i := 647) (by rfl)) rfl
abbrev cw_Mo_value : Cond := .code y_Mo_value b_Mo_value 5 (some .int)
set_option maxRecDepth 100000 in
theorem mc_Mo_value : cw_Mo_value ∈ tb := tb_t (List.mem_of_getElem? (i := 651) (by rfl)) rfl
abbrev cw_Mo_reckon : Cond := .code y_Mo_reckon b_Mo_reckon 4 none
set_option maxRecDepth 100000 in
theorem mc_Mo_reckon : cw_Mo_reckon ∈ tb := tb_t (List.mem_of_getElem? (i := 656) (by rfl)) rfl
abbrev cw_Mo_part : Cond := .code y_Mo_part b_Mo_part 7 (some .int)
set_option maxRecDepth 100000 in
theorem mc_Mo_part : cw_Mo_part ∈ tb := tb_t (List.mem_of_getElem? (i := 660) (by rfl)) rfl
abbrev cw_Mo_growth : Cond := .code y_Mo_growth b_Mo_growth 4 (some .int)
set_option maxRecDepth 100000 in
theorem mc_Mo_growth : cw_Mo_growth ∈ tb := tb_t (List.mem_of_getElem? (i := 664) (by rfl)) rfl
abbrev cw_Mo_rest : Cond := .code y_Mo_rest b_Mo_rest 5 none
set_option maxRecDepth 100000 in
theorem mc_Mo_rest : cw_Mo_rest ∈ tb := tb_t (List.mem_of_getElem? (i := 668) (by rfl)) rfl
abbrev cw_Mo_isAtMost : Cond := .code y_Mo_isAtMost b_Mo_isAtMost 3 (some .boolean)
set_option maxRecDepth 100000 in
theorem mc_Mo_isAtMost : cw_Mo_isAtMost ∈ tb := tb_t (List.mem_of_getElem? (i := 672) (by rfl)) rfl
abbrev cw_Mo_regionOf : Cond := .code y_Mo_regionOf b_Mo_regionOf 4 (some .int)
set_option maxRecDepth 100000 in
theorem mc_Mo_regionOf : cw_Mo_regionOf ∈ tb := tb_t (List.mem_of_getElem? (i := 676) (by rfl)) rfl
abbrev cw_Mo_goesOn : Cond := .code y_Mo_goesOn b_Mo_goesOn 7 (some .boolean)
set_option maxRecDepth 100000 in
theorem mc_Mo_goesOn : cw_Mo_goesOn ∈ tb := tb_t (List.mem_of_getElem? (i := 680) (by rfl)) rfl
abbrev cw_Mo_isSame : Cond := .code y_Mo_isSame b_Mo_isSame 3 (some .boolean)
set_option maxRecDepth 100000 in
theorem mc_Mo_isSame : cw_Mo_isSame ∈ tb := tb_t (List.mem_of_getElem? (i := 684) (by rfl)) rfl
abbrev cw_Mo_isSameLevel : Cond := .code y_Mo_isSameLevel b_Mo_isSameLevel 3 (some .boolean)
set_option maxRecDepth 100000 in
theorem mc_Mo_isSameLevel : cw_Mo_isSameLevel ∈ tb := tb_t (List.mem_of_getElem? (i := 688) (by rfl)) rfl
abbrev cw_Mo_least : Cond := .code y_Mo_least b_Mo_least 3 (some .int)
set_option maxRecDepth 100000 in
theorem mc_Mo_least : cw_Mo_least ∈ tb := tb_t (List.mem_of_getElem? (i := 692) (by rfl)) rfl
abbrev cw_Mo_above : Cond := .code y_Mo_above b_Mo_above 10 (some .long)
set_option maxRecDepth 100000 in
theorem mc_Mo_above : cw_Mo_above ∈ tb := tb_t (List.mem_of_getElem? (i := 696) (by rfl)) rfl
abbrev cw_Mo_unknown : Cond := .code y_Mo_unknown b_Mo_unknown 1 (some .int)
set_option maxRecDepth 100000 in
theorem mc_Mo_unknown : cw_Mo_unknown ∈ tb := tb_t (List.mem_of_getElem? (i := 701) (by rfl)) rfl
abbrev cw_Mo_need : Cond := .code y_Mo_need b_Mo_need 4 (some .int)
set_option maxRecDepth 100000 in
theorem mc_Mo_need : cw_Mo_need ∈ tb := tb_t (List.mem_of_getElem? (i := 705) (by rfl)) rfl
abbrev cw_Mo_isSide : Cond := .code y_Mo_isSide b_Mo_isSide 2 (some .boolean)
set_option maxRecDepth 100000 in
theorem mc_Mo_isSide : cw_Mo_isSide ∈ tb := tb_t (List.mem_of_getElem? (i := 709) (by rfl)) rfl
abbrev cw_Mo_isSolved : Cond := .code y_Mo_isSolved b_Mo_isSolved 1 (some .boolean)
set_option maxRecDepth 100000 in
theorem mc_Mo_isSolved : cw_Mo_isSolved ∈ tb := tb_t (List.mem_of_getElem? (i := 713) (by rfl)) rfl
abbrev cw_Mo_solvesAll : Cond := .code y_Mo_solvesAll b_Mo_solvesAll 2 (some .boolean)
set_option maxRecDepth 100000 in
theorem mc_Mo_solvesAll : cw_Mo_solvesAll ∈ tb := tb_t (List.mem_of_getElem? (i := 717) (by rfl)) rfl
abbrev cw_Mo_solves : Cond := .code y_Mo_solves b_Mo_solves 4 (some .boolean)
set_option maxRecDepth 100000 in
theorem mc_Mo_solves : cw_Mo_solves ∈ tb := tb_t (List.mem_of_getElem? (i := 721) (by rfl)) rfl
abbrev cw_Mo_solution : Cond := .code y_Mo_solution b_Mo_solution 2 (some .int)
set_option maxRecDepth 100000 in
theorem mc_Mo_solution : cw_Mo_solution ∈ tb := tb_t (List.mem_of_getElem? (i := 725) (by rfl)) rfl
abbrev cw_Mo_isClash : Cond := .code y_Mo_isClash b_Mo_isClash 3 (some .boolean)
set_option maxRecDepth 100000 in
theorem mc_Mo_isClash : cw_Mo_isClash ∈ tb := tb_t (List.mem_of_getElem? (i := 729) (by rfl)) rfl
abbrev cw_Mo_undo : Cond := .code y_Mo_undo b_Mo_undo 2 (some .boolean)
set_option maxRecDepth 100000 in
theorem mc_Mo_undo : cw_Mo_undo ∈ tb := tb_t (List.mem_of_getElem? (i := 733) (by rfl)) rfl
abbrev cw_Mo_about : Cond := .code y_Mo_about b_Mo_about 2 (some .int)
set_option maxRecDepth 100000 in
theorem mc_Mo_about : cw_Mo_about ∈ tb := tb_t (List.mem_of_getElem? (i := 737) (by rfl)) rfl
theorem mw_0 : (.initialized R_Law : Cond) ∈ tb := tb_t (List.mem_of_getElem? (i := 0) (by decide +kernel)) rfl
theorem mw_1 : (.initialized R_LR : Cond) ∈ tb := tb_t (List.mem_of_getElem? (i := 1) (by decide +kernel)) rfl
theorem mw_2 : (.initialized R_Lv : Cond) ∈ tb := tb_t (List.mem_of_getElem? (i := 2) (by decide +kernel)) rfl
theorem mw_3 : (.initialized R_Rp : Cond) ∈ tb := tb_t (List.mem_of_getElem? (i := 3) (by decide +kernel)) rfl
theorem mw_4 : (.initialized R_Nd : Cond) ∈ tb := tb_t (List.mem_of_getElem? (i := 4) (by decide +kernel)) rfl
theorem mw_5 : (.initialized R_Mo : Cond) ∈ tb := tb_t (List.mem_of_getElem? (i := 5) (by decide +kernel)) rfl
theorem mw_6 : (.initialized "java/lang/Throwable" : Cond) ∈ tb := tb_t (List.mem_of_getElem? (i := 6) (by decide +kernel)) rfl
theorem mw_7 : (.initialized "java/lang/Exception" : Cond) ∈ tb := tb_t (List.mem_of_getElem? (i := 7) (by decide +kernel)) rfl
theorem mw_8 : (.initialized "java/lang/RuntimeException" : Cond) ∈ tb := tb_t (List.mem_of_getElem? (i := 8) (by decide +kernel)) rfl
theorem mw_9 : (.initialized "java/lang/IllegalArgumentException" : Cond) ∈ tb := tb_t (List.mem_of_getElem? (i := 9) (by decide +kernel)) rfl
theorem mw_10 : (.initialized "java/lang/IllegalStateException" : Cond) ∈ tb := tb_t (List.mem_of_getElem? (i := 10) (by decide +kernel)) rfl
theorem mw_11 : (.initialized "java/lang/Math" : Cond) ∈ tb := tb_t (List.mem_of_getElem? (i := 11) (by decide +kernel)) rfl
theorem mw_12 : (.initialized R_Pt : Cond) ∈ tb := tb_t (List.mem_of_getElem? (i := 12) (by decide +kernel)) rfl
theorem mw_13 : (.initialized "java/lang/IndexOutOfBoundsException" : Cond) ∈ tb := tb_t (List.mem_of_getElem? (i := 13) (by decide +kernel)) rfl
theorem mw_14 : (.initialized R_Ar : Cond) ∈ tb := tb_t (List.mem_of_getElem? (i := 14) (by decide +kernel)) rfl
theorem mw_15 : (.classLink R_Law 8 R_LR : Cond) ∈ tb := tb_t (List.mem_of_getElem? (i := 15) (by decide +kernel)) rfl
theorem mw_16 : (.instantiable R_LR 3 : Cond) ∈ tb := tb_t (List.mem_of_getElem? (i := 16) (by decide +kernel)) rfl
theorem mw_17 : (.methodLink R_Law 57 y_LR_init : Cond) ∈ tb := tb_t (List.mem_of_getElem? (i := 17) (by decide +kernel)) rfl
theorem mw_18 : (.instanceMethod y_LR_init : Cond) ∈ tb := tb_t (List.mem_of_getElem? (i := 18) (by decide +kernel)) rfl
theorem mw_20 : (.methodLink R_LR 3 ⟨"java/lang/Object", "<init>", "()V"⟩ : Cond) ∈ tb := tb_t (List.mem_of_getElem? (i := 20) (by decide +kernel)) rfl
theorem mw_21 : (.instanceMethod ⟨"java/lang/Object", "<init>", "()V"⟩ : Cond) ∈ tb := tb_t (List.mem_of_getElem? (i := 21) (by decide +kernel)) rfl
theorem mw_23 : (.classLink R_LR 9 R_Lv : Cond) ∈ tb := tb_t (List.mem_of_getElem? (i := 23) (by decide +kernel)) rfl
theorem mw_24 : (.instantiable R_Lv 8 : Cond) ∈ tb := tb_t (List.mem_of_getElem? (i := 24) (by decide +kernel)) rfl
theorem mw_26 : (.instanceMethod y_Lv_init : Cond) ∈ tb := tb_t (List.mem_of_getElem? (i := 26) (by decide +kernel)) rfl
theorem mw_28 : (.methodLink R_Lv 3 ⟨"java/lang/Object", "<init>", "()V"⟩ : Cond) ∈ tb := tb_t (List.mem_of_getElem? (i := 28) (by decide +kernel)) rfl
theorem mw_29 : (.fieldLink R_Lv 9 R_Lv "kinds" "[I" : Cond) ∈ tb := tb_t (List.mem_of_getElem? (i := 29) (by decide +kernel)) rfl
theorem mw_30 : (.fieldLink R_Lv 15 R_Lv "firsts" "[I" : Cond) ∈ tb := tb_t (List.mem_of_getElem? (i := 30) (by decide +kernel)) rfl
theorem mw_31 : (.fieldLink R_Lv 18 R_Lv "seconds" "[I" : Cond) ∈ tb := tb_t (List.mem_of_getElem? (i := 31) (by decide +kernel)) rfl
theorem mw_32 : (.fieldLink R_Lv 21 R_Lv "nexts" "[I" : Cond) ∈ tb := tb_t (List.mem_of_getElem? (i := 32) (by decide +kernel)) rfl
theorem mw_33 : (.fieldLink R_Lv 24 R_Lv "uses" "[I" : Cond) ∈ tb := tb_t (List.mem_of_getElem? (i := 33) (by decide +kernel)) rfl
theorem mw_34 : (.fieldLink R_Lv 27 R_Lv "values" "[I" : Cond) ∈ tb := tb_t (List.mem_of_getElem? (i := 34) (by decide +kernel)) rfl
theorem mw_35 : (.fieldLink R_Lv 30 R_Lv "parts" "[J" : Cond) ∈ tb := tb_t (List.mem_of_getElem? (i := 35) (by decide +kernel)) rfl
theorem mw_36 : (.fieldLink R_Lv 34 R_Lv "count" "I" : Cond) ∈ tb := tb_t (List.mem_of_getElem? (i := 36) (by decide +kernel)) rfl
theorem mw_54 : (.arrayClass .int : Cond) ∈ tb := tb_t (List.mem_of_getElem? (i := 54) (by decide +kernel)) rfl
theorem mw_55 : (.arrayClass .long : Cond) ∈ tb := tb_t (List.mem_of_getElem? (i := 55) (by decide +kernel)) rfl
theorem mw_56 : (.classLink R_LR 16 R_Rp : Cond) ∈ tb := tb_t (List.mem_of_getElem? (i := 56) (by decide +kernel)) rfl
theorem mw_57 : (.instantiable R_Rp 3 : Cond) ∈ tb := tb_t (List.mem_of_getElem? (i := 57) (by decide +kernel)) rfl
theorem mw_58 : (.methodLink R_LR 18 y_Rp_init : Cond) ∈ tb := tb_t (List.mem_of_getElem? (i := 58) (by decide +kernel)) rfl
theorem mw_59 : (.instanceMethod y_Rp_init : Cond) ∈ tb := tb_t (List.mem_of_getElem? (i := 59) (by decide +kernel)) rfl
theorem mw_61 : (.methodLink R_Rp 3 ⟨"java/lang/Object", "<init>", "()V"⟩ : Cond) ∈ tb := tb_t (List.mem_of_getElem? (i := 61) (by decide +kernel)) rfl
theorem mw_62 : (.fieldLink R_Rp 18 R_Rp "levels" "LLevelRows$Levels;" : Cond) ∈ tb := tb_t (List.mem_of_getElem? (i := 62) (by decide +kernel)) rfl
theorem mw_63 : (.fieldLink R_Rp 9 R_Rp "results" "[I" : Cond) ∈ tb := tb_t (List.mem_of_getElem? (i := 63) (by decide +kernel)) rfl
theorem mw_64 : (.fieldLink R_Rp 15 R_Rp "open" "[I" : Cond) ∈ tb := tb_t (List.mem_of_getElem? (i := 64) (by decide +kernel)) rfl
theorem mw_72 : (.classLink R_LR 25 R_Nd : Cond) ∈ tb := tb_t (List.mem_of_getElem? (i := 72) (by decide +kernel)) rfl
theorem mw_73 : (.instantiable R_Nd 10 : Cond) ∈ tb := tb_t (List.mem_of_getElem? (i := 73) (by decide +kernel)) rfl
theorem mw_75 : (.instanceMethod y_Nd_init : Cond) ∈ tb := tb_t (List.mem_of_getElem? (i := 75) (by decide +kernel)) rfl
theorem mw_77 : (.methodLink R_Nd 3 ⟨"java/lang/Object", "<init>", "()V"⟩ : Cond) ∈ tb := tb_t (List.mem_of_getElem? (i := 77) (by decide +kernel)) rfl
theorem mw_78 : (.fieldLink R_Nd 9 R_Nd "lows" "[I" : Cond) ∈ tb := tb_t (List.mem_of_getElem? (i := 78) (by decide +kernel)) rfl
theorem mw_79 : (.fieldLink R_Nd 15 R_Nd "steps" "[I" : Cond) ∈ tb := tb_t (List.mem_of_getElem? (i := 79) (by decide +kernel)) rfl
theorem mw_80 : (.fieldLink R_Nd 18 R_Nd "highs" "[I" : Cond) ∈ tb := tb_t (List.mem_of_getElem? (i := 80) (by decide +kernel)) rfl
theorem mw_81 : (.fieldLink R_Nd 21 R_Nd "kept" "[Z" : Cond) ∈ tb := tb_t (List.mem_of_getElem? (i := 81) (by decide +kernel)) rfl
theorem mw_82 : (.fieldLink R_Nd 25 R_Nd "numbers" "[I" : Cond) ∈ tb := tb_t (List.mem_of_getElem? (i := 82) (by decide +kernel)) rfl
theorem mw_83 : (.fieldLink R_Nd 28 R_Nd "unknowns" "I" : Cond) ∈ tb := tb_t (List.mem_of_getElem? (i := 83) (by decide +kernel)) rfl
theorem mw_84 : (.fieldLink R_Nd 32 R_Nd "count" "I" : Cond) ∈ tb := tb_t (List.mem_of_getElem? (i := 84) (by decide +kernel)) rfl
theorem mw_85 : (.fieldLink R_Nd 35 R_Nd "solved" "Z" : Cond) ∈ tb := tb_t (List.mem_of_getElem? (i := 85) (by decide +kernel)) rfl
theorem mw_86 : (.fieldLink R_Nd 39 R_Nd "solvedIsKnown" "Z" : Cond) ∈ tb := tb_t (List.mem_of_getElem? (i := 86) (by decide +kernel)) rfl
theorem mw_87 : (.fieldLink R_Nd 42 R_Nd "clashIsKnown" "Z" : Cond) ∈ tb := tb_t (List.mem_of_getElem? (i := 87) (by decide +kernel)) rfl
theorem mw_109 : (.arrayClass .boolean : Cond) ∈ tb := tb_t (List.mem_of_getElem? (i := 109) (by decide +kernel)) rfl
theorem mw_110 : (.fieldLink R_LR 12 R_LR "levels" "LLevelRows$Levels;" : Cond) ∈ tb := tb_t (List.mem_of_getElem? (i := 110) (by decide +kernel)) rfl
theorem mw_111 : (.fieldLink R_LR 21 R_LR "replacement" "LLevelRows$Replacement;" : Cond) ∈ tb := tb_t (List.mem_of_getElem? (i := 111) (by decide +kernel)) rfl
theorem mw_112 : (.fieldLink R_LR 28 R_LR "needs" "LLevelRows$Needs;" : Cond) ∈ tb := tb_t (List.mem_of_getElem? (i := 112) (by decide +kernel)) rfl
theorem mw_120 : (.methodLink R_Law 81 y_LR_level : Cond) ∈ tb := tb_t (List.mem_of_getElem? (i := 120) (by decide +kernel)) rfl
theorem mw_121 : (.instanceMethod y_LR_level : Cond) ∈ tb := tb_t (List.mem_of_getElem? (i := 121) (by decide +kernel)) rfl
theorem mw_122 : (.selects R_LR y_LR_level y_LR_level : Cond) ∈ tb := tb_t (List.mem_of_getElem? (i := 122) (by decide +kernel)) rfl
theorem mw_124 : (.methodLink R_LR 43 y_Lv_has : Cond) ∈ tb := tb_t (List.mem_of_getElem? (i := 124) (by decide +kernel)) rfl
theorem mw_125 : (.instanceMethod y_Lv_has : Cond) ∈ tb := tb_t (List.mem_of_getElem? (i := 125) (by decide +kernel)) rfl
theorem mw_126 : (.selects R_Lv y_Lv_has y_Lv_has : Cond) ∈ tb := tb_t (List.mem_of_getElem? (i := 126) (by decide +kernel)) rfl
theorem mw_128 : (.methodLink R_LR 47 y_Lv_detail : Cond) ∈ tb := tb_t (List.mem_of_getElem? (i := 128) (by decide +kernel)) rfl
theorem mw_129 : (.instanceMethod y_Lv_detail : Cond) ∈ tb := tb_t (List.mem_of_getElem? (i := 129) (by decide +kernel)) rfl
theorem mw_130 : (.selects R_Lv y_Lv_detail y_Lv_detail : Cond) ∈ tb := tb_t (List.mem_of_getElem? (i := 130) (by decide +kernel)) rfl
theorem mw_132 : (.methodLink R_Law 92 y_LR_value : Cond) ∈ tb := tb_t (List.mem_of_getElem? (i := 132) (by decide +kernel)) rfl
theorem mw_133 : (.instanceMethod y_LR_value : Cond) ∈ tb := tb_t (List.mem_of_getElem? (i := 133) (by decide +kernel)) rfl
theorem mw_134 : (.selects R_LR y_LR_value y_LR_value : Cond) ∈ tb := tb_t (List.mem_of_getElem? (i := 134) (by decide +kernel)) rfl
theorem mw_136 : (.methodLink R_LR 54 y_Lv_valueFor : Cond) ∈ tb := tb_t (List.mem_of_getElem? (i := 136) (by decide +kernel)) rfl
theorem mw_137 : (.instanceMethod y_Lv_valueFor : Cond) ∈ tb := tb_t (List.mem_of_getElem? (i := 137) (by decide +kernel)) rfl
theorem mw_138 : (.selects R_Lv y_Lv_valueFor y_Lv_valueFor : Cond) ∈ tb := tb_t (List.mem_of_getElem? (i := 138) (by decide +kernel)) rfl
theorem mw_140 : (.methodLink R_Lv 95 y_Lv_valueOf : Cond) ∈ tb := tb_t (List.mem_of_getElem? (i := 140) (by decide +kernel)) rfl
theorem mw_142 : (.instanceMethod y_Lv_valueOf : Cond) ∈ tb := tb_t (List.mem_of_getElem? (i := 142) (by decide +kernel)) rfl
theorem mw_144 : (.methodLink R_Lv 69 ⟨"java/lang/Math", "max", "(II)I"⟩ : Cond) ∈ tb := tb_t (List.mem_of_getElem? (i := 144) (by decide +kernel)) rfl
theorem mw_145 : (.static ⟨"java/lang/Math", "max", "(II)I"⟩ : Cond) ∈ tb := tb_t (List.mem_of_getElem? (i := 145) (by decide +kernel)) rfl
theorem mw_147 : (.methodLink R_Law 119 y_LR_isSolved : Cond) ∈ tb := tb_t (List.mem_of_getElem? (i := 147) (by decide +kernel)) rfl
theorem mw_148 : (.instanceMethod y_LR_isSolved : Cond) ∈ tb := tb_t (List.mem_of_getElem? (i := 148) (by decide +kernel)) rfl
theorem mw_149 : (.selects R_LR y_LR_isSolved y_LR_isSolved : Cond) ∈ tb := tb_t (List.mem_of_getElem? (i := 149) (by decide +kernel)) rfl
theorem mw_151 : (.methodLink R_LR 122 y_Nd_areSolved : Cond) ∈ tb := tb_t (List.mem_of_getElem? (i := 151) (by decide +kernel)) rfl
theorem mw_152 : (.instanceMethod y_Nd_areSolved : Cond) ∈ tb := tb_t (List.mem_of_getElem? (i := 152) (by decide +kernel)) rfl
theorem mw_153 : (.selects R_Nd y_Nd_areSolved y_Nd_areSolved : Cond) ∈ tb := tb_t (List.mem_of_getElem? (i := 153) (by decide +kernel)) rfl
theorem mw_155 : (.methodLink R_Nd 52 y_Nd_keepAll : Cond) ∈ tb := tb_t (List.mem_of_getElem? (i := 155) (by decide +kernel)) rfl
theorem mw_157 : (.instanceMethod y_Nd_keepAll : Cond) ∈ tb := tb_t (List.mem_of_getElem? (i := 157) (by decide +kernel)) rfl
theorem mw_159 : (.methodLink R_Nd 55 y_Nd_canKeptBeSolved : Cond) ∈ tb := tb_t (List.mem_of_getElem? (i := 159) (by decide +kernel)) rfl
theorem mw_161 : (.instanceMethod y_Nd_canKeptBeSolved : Cond) ∈ tb := tb_t (List.mem_of_getElem? (i := 161) (by decide +kernel)) rfl
theorem mw_163 : (.methodLink R_Nd 65 y_Ar_fill : Cond) ∈ tb := tb_t (List.mem_of_getElem? (i := 163) (by decide +kernel)) rfl
theorem mw_164 : (.static y_Ar_fill : Cond) ∈ tb := tb_t (List.mem_of_getElem? (i := 164) (by decide +kernel)) rfl
theorem mw_166 : (.methodLink R_Nd 71 y_Nd_raiseNumbers : Cond) ∈ tb := tb_t (List.mem_of_getElem? (i := 166) (by decide +kernel)) rfl
theorem mw_168 : (.instanceMethod y_Nd_raiseNumbers : Cond) ∈ tb := tb_t (List.mem_of_getElem? (i := 168) (by decide +kernel)) rfl
theorem mw_170 : (.methodLink R_Law 124 y_LR_solution : Cond) ∈ tb := tb_t (List.mem_of_getElem? (i := 170) (by decide +kernel)) rfl
theorem mw_171 : (.instanceMethod y_LR_solution : Cond) ∈ tb := tb_t (List.mem_of_getElem? (i := 171) (by decide +kernel)) rfl
theorem mw_172 : (.selects R_LR y_LR_solution y_LR_solution : Cond) ∈ tb := tb_t (List.mem_of_getElem? (i := 172) (by decide +kernel)) rfl
theorem mw_174 : (.methodLink R_LR 126 y_Nd_leastNumber : Cond) ∈ tb := tb_t (List.mem_of_getElem? (i := 174) (by decide +kernel)) rfl
theorem mw_175 : (.instanceMethod y_Nd_leastNumber : Cond) ∈ tb := tb_t (List.mem_of_getElem? (i := 175) (by decide +kernel)) rfl
theorem mw_176 : (.selects R_Nd y_Nd_leastNumber y_Nd_leastNumber : Cond) ∈ tb := tb_t (List.mem_of_getElem? (i := 176) (by decide +kernel)) rfl
theorem mw_178 : (.methodLink R_Nd 45 y_Nd_isUnknown : Cond) ∈ tb := tb_t (List.mem_of_getElem? (i := 178) (by decide +kernel)) rfl
theorem mw_180 : (.instanceMethod y_Nd_isUnknown : Cond) ∈ tb := tb_t (List.mem_of_getElem? (i := 180) (by decide +kernel)) rfl
theorem mw_182 : (.methodLink R_Nd 59 y_Nd_areSolved : Cond) ∈ tb := tb_t (List.mem_of_getElem? (i := 182) (by decide +kernel)) rfl
theorem mw_183 : (.methodLink R_Law 128 y_LR_isClash : Cond) ∈ tb := tb_t (List.mem_of_getElem? (i := 183) (by decide +kernel)) rfl
theorem mw_184 : (.instanceMethod y_LR_isClash : Cond) ∈ tb := tb_t (List.mem_of_getElem? (i := 184) (by decide +kernel)) rfl
theorem mw_185 : (.selects R_LR y_LR_isClash y_LR_isClash : Cond) ∈ tb := tb_t (List.mem_of_getElem? (i := 185) (by decide +kernel)) rfl
theorem mw_187 : (.methodLink R_LR 129 y_Nd_isInClash : Cond) ∈ tb := tb_t (List.mem_of_getElem? (i := 187) (by decide +kernel)) rfl
theorem mw_188 : (.instanceMethod y_Nd_isInClash : Cond) ∈ tb := tb_t (List.mem_of_getElem? (i := 188) (by decide +kernel)) rfl
theorem mw_189 : (.selects R_Nd y_Nd_isInClash y_Nd_isInClash : Cond) ∈ tb := tb_t (List.mem_of_getElem? (i := 189) (by decide +kernel)) rfl
theorem mw_191 : (.methodLink R_Nd 62 y_Nd_keepClashOnly : Cond) ∈ tb := tb_t (List.mem_of_getElem? (i := 191) (by decide +kernel)) rfl
theorem mw_193 : (.instanceMethod y_Nd_keepClashOnly : Cond) ∈ tb := tb_t (List.mem_of_getElem? (i := 193) (by decide +kernel)) rfl
theorem mw_195 : (.methodLink R_Law 133 y_LR_undo : Cond) ∈ tb := tb_t (List.mem_of_getElem? (i := 195) (by decide +kernel)) rfl
theorem mw_196 : (.instanceMethod y_LR_undo : Cond) ∈ tb := tb_t (List.mem_of_getElem? (i := 196) (by decide +kernel)) rfl
theorem mw_197 : (.selects R_LR y_LR_undo y_LR_undo : Cond) ∈ tb := tb_t (List.mem_of_getElem? (i := 197) (by decide +kernel)) rfl
theorem mw_199 : (.methodLink R_LR 132 y_Nd_removeLatest : Cond) ∈ tb := tb_t (List.mem_of_getElem? (i := 199) (by decide +kernel)) rfl
theorem mw_200 : (.instanceMethod y_Nd_removeLatest : Cond) ∈ tb := tb_t (List.mem_of_getElem? (i := 200) (by decide +kernel)) rfl
theorem mw_201 : (.selects R_Nd y_Nd_removeLatest y_Nd_removeLatest : Cond) ∈ tb := tb_t (List.mem_of_getElem? (i := 201) (by decide +kernel)) rfl
theorem mw_203 : (.methodLink R_Nd 49 y_Nd_forget : Cond) ∈ tb := tb_t (List.mem_of_getElem? (i := 203) (by decide +kernel)) rfl
theorem mw_205 : (.instanceMethod y_Nd_forget : Cond) ∈ tb := tb_t (List.mem_of_getElem? (i := 205) (by decide +kernel)) rfl
theorem mw_207 : (.methodLink R_Law 137 y_LR_about : Cond) ∈ tb := tb_t (List.mem_of_getElem? (i := 207) (by decide +kernel)) rfl
theorem mw_208 : (.instanceMethod y_LR_about : Cond) ∈ tb := tb_t (List.mem_of_getElem? (i := 208) (by decide +kernel)) rfl
theorem mw_209 : (.selects R_LR y_LR_about y_LR_about : Cond) ∈ tb := tb_t (List.mem_of_getElem? (i := 209) (by decide +kernel)) rfl
theorem mw_211 : (.methodLink R_LR 135 y_Lv_size : Cond) ∈ tb := tb_t (List.mem_of_getElem? (i := 211) (by decide +kernel)) rfl
theorem mw_212 : (.instanceMethod y_Lv_size : Cond) ∈ tb := tb_t (List.mem_of_getElem? (i := 212) (by decide +kernel)) rfl
theorem mw_213 : (.selects R_Lv y_Lv_size y_Lv_size : Cond) ∈ tb := tb_t (List.mem_of_getElem? (i := 213) (by decide +kernel)) rfl
theorem mw_215 : (.methodLink R_LR 92 y_Nd_unknowns : Cond) ∈ tb := tb_t (List.mem_of_getElem? (i := 215) (by decide +kernel)) rfl
theorem mw_216 : (.instanceMethod y_Nd_unknowns : Cond) ∈ tb := tb_t (List.mem_of_getElem? (i := 216) (by decide +kernel)) rfl
theorem mw_217 : (.selects R_Nd y_Nd_unknowns y_Nd_unknowns : Cond) ∈ tb := tb_t (List.mem_of_getElem? (i := 217) (by decide +kernel)) rfl
theorem mw_219 : (.methodLink R_LR 114 y_Nd_size : Cond) ∈ tb := tb_t (List.mem_of_getElem? (i := 219) (by decide +kernel)) rfl
theorem mw_220 : (.instanceMethod y_Nd_size : Cond) ∈ tb := tb_t (List.mem_of_getElem? (i := 220) (by decide +kernel)) rfl
theorem mw_221 : (.selects R_Nd y_Nd_size y_Nd_size : Cond) ∈ tb := tb_t (List.mem_of_getElem? (i := 221) (by decide +kernel)) rfl
theorem mw_223 : (.methodLink R_Law 61 y_Law_zero : Cond) ∈ tb := tb_t (List.mem_of_getElem? (i := 223) (by decide +kernel)) rfl
theorem mw_224 : (.static y_Law_zero : Cond) ∈ tb := tb_t (List.mem_of_getElem? (i := 224) (by decide +kernel)) rfl
theorem mw_226 : (.classLink R_Law 13 "java/lang/IllegalStateException" : Cond) ∈ tb := tb_t (List.mem_of_getElem? (i := 226) (by decide +kernel)) rfl
theorem mw_227 : (.methodLink R_Law 7 y_LR_zero : Cond) ∈ tb := tb_t (List.mem_of_getElem? (i := 227) (by decide +kernel)) rfl
theorem mw_228 : (.instanceMethod y_LR_zero : Cond) ∈ tb := tb_t (List.mem_of_getElem? (i := 228) (by decide +kernel)) rfl
theorem mw_229 : (.selects R_LR y_LR_zero y_LR_zero : Cond) ∈ tb := tb_t (List.mem_of_getElem? (i := 229) (by decide +kernel)) rfl
theorem mw_231 : (.methodLink R_LR 32 y_Lv_made : Cond) ∈ tb := tb_t (List.mem_of_getElem? (i := 231) (by decide +kernel)) rfl
theorem mw_232 : (.instanceMethod y_Lv_made : Cond) ∈ tb := tb_t (List.mem_of_getElem? (i := 232) (by decide +kernel)) rfl
theorem mw_233 : (.selects R_Lv y_Lv_made y_Lv_made : Cond) ∈ tb := tb_t (List.mem_of_getElem? (i := 233) (by decide +kernel)) rfl
theorem mw_235 : (.methodLink R_Lv 38 y_Lv_find : Cond) ∈ tb := tb_t (List.mem_of_getElem? (i := 235) (by decide +kernel)) rfl
theorem mw_237 : (.instanceMethod y_Lv_find : Cond) ∈ tb := tb_t (List.mem_of_getElem? (i := 237) (by decide +kernel)) rfl
theorem mw_239 : (.methodLink R_Lv 42 y_Lv_checkNew : Cond) ∈ tb := tb_t (List.mem_of_getElem? (i := 239) (by decide +kernel)) rfl
theorem mw_241 : (.instanceMethod y_Lv_checkNew : Cond) ∈ tb := tb_t (List.mem_of_getElem? (i := 241) (by decide +kernel)) rfl
theorem mw_243 : (.classLink R_Lv 57 "java/lang/IllegalArgumentException" : Cond) ∈ tb := tb_t (List.mem_of_getElem? (i := 243) (by decide +kernel)) rfl
theorem mw_244 : (.instantiable "java/lang/IllegalArgumentException" 6 : Cond) ∈ tb := tb_t (List.mem_of_getElem? (i := 244) (by decide +kernel)) rfl
theorem mw_252 : (.selects "java/lang/IllegalArgumentException" ⟨"java/lang/Throwable", "fillInStackTrace", "(I)Ljava/lang/Throwable;"⟩ ⟨"java/lang/Throwable", "fillInStackTrace", "(I)Ljava/lang/Throwable;"⟩ : Cond) ∈ tb := tb_t (List.mem_of_getElem? (i := 252) (by decide +kernel)) rfl
theorem mw_253 : (.selects "java/lang/IllegalArgumentException" ⟨"java/lang/Throwable", "fillInStackTrace", "()Ljava/lang/Throwable;"⟩ ⟨"java/lang/Throwable", "fillInStackTrace", "()Ljava/lang/Throwable;"⟩ : Cond) ∈ tb := tb_t (List.mem_of_getElem? (i := 253) (by decide +kernel)) rfl
theorem mw_264 : (.fieldLink "java/lang/Throwable" 198 "java/lang/Throwable" "backtrace" "Ljava/lang/Object;" : Cond) ∈ tb := tb_t (List.mem_of_getElem? (i := 264) (by decide +kernel)) rfl
theorem mw_266 : (.instanceMethod ⟨"java/lang/Throwable", "<init>", "()V"⟩ : Cond) ∈ tb := tb_t (List.mem_of_getElem? (i := 266) (by decide +kernel)) rfl
theorem mw_268 : (.methodLink "java/lang/Throwable" 1 ⟨"java/lang/Object", "<init>", "()V"⟩ : Cond) ∈ tb := tb_t (List.mem_of_getElem? (i := 268) (by decide +kernel)) rfl
theorem mw_269 : (.fieldLink "java/lang/Throwable" 13 "java/lang/Throwable" "UNASSIGNED_STACK" "[Ljava/lang/StackTraceElement;" : Cond) ∈ tb := tb_t (List.mem_of_getElem? (i := 269) (by decide +kernel)) rfl
theorem mw_271 : (.fieldLink "java/lang/Throwable" 20 "java/lang/Throwable" "SUPPRESSED_SENTINEL" "Ljava/util/List;" : Cond) ∈ tb := tb_t (List.mem_of_getElem? (i := 271) (by decide +kernel)) rfl
theorem mw_273 : (.methodLink "java/lang/Throwable" 27 ⟨"java/lang/Throwable", "fillInStackTrace", "()Ljava/lang/Throwable;"⟩ : Cond) ∈ tb := tb_t (List.mem_of_getElem? (i := 273) (by decide +kernel)) rfl
theorem mw_274 : (.instanceMethod ⟨"java/lang/Throwable", "fillInStackTrace", "()Ljava/lang/Throwable;"⟩ : Cond) ∈ tb := tb_t (List.mem_of_getElem? (i := 274) (by decide +kernel)) rfl
theorem mw_275 : (.sameMethod "java/lang/Throwable" "java/lang/Throwable" "fillInStackTrace" "()Ljava/lang/Throwable;" : Cond) ∈ tb := tb_t (List.mem_of_getElem? (i := 275) (by decide +kernel)) rfl
theorem mw_276 : (.selects "java/lang/IllegalStateException" ⟨"java/lang/Throwable", "fillInStackTrace", "()Ljava/lang/Throwable;"⟩ ⟨"java/lang/Throwable", "fillInStackTrace", "()Ljava/lang/Throwable;"⟩ : Cond) ∈ tb := tb_t (List.mem_of_getElem? (i := 276) (by decide +kernel)) rfl
theorem mw_277 : (.selects "java/lang/IndexOutOfBoundsException" ⟨"java/lang/Throwable", "fillInStackTrace", "()Ljava/lang/Throwable;"⟩ ⟨"java/lang/Throwable", "fillInStackTrace", "()Ljava/lang/Throwable;"⟩ : Cond) ∈ tb := tb_t (List.mem_of_getElem? (i := 277) (by decide +kernel)) rfl
theorem mw_279 : (.methodLink "java/lang/Throwable" 202 ⟨"java/lang/Throwable", "fillInStackTrace", "(I)Ljava/lang/Throwable;"⟩ : Cond) ∈ tb := tb_t (List.mem_of_getElem? (i := 279) (by decide +kernel)) rfl
theorem mw_281 : (.instanceMethod ⟨"java/lang/Throwable", "fillInStackTrace", "(I)Ljava/lang/Throwable;"⟩ : Cond) ∈ tb := tb_t (List.mem_of_getElem? (i := 281) (by decide +kernel)) rfl
theorem mw_282 : (.instantiable "java/lang/Throwable" 6 : Cond) ∈ tb := tb_t (List.mem_of_getElem? (i := 282) (by decide +kernel)) rfl
theorem mw_283 : (.native ⟨"java/lang/Throwable", "fillInStackTrace", "(I)Ljava/lang/Throwable;"⟩ : Cond) ∈ tb := tb_t (List.mem_of_getElem? (i := 283) (by decide +kernel)) rfl
theorem mw_285 : (.methodLink R_Lv 61 ⟨"java/lang/IllegalArgumentException", "<init>", "(Ljava/lang/String;)V"⟩ : Cond) ∈ tb := tb_t (List.mem_of_getElem? (i := 285) (by decide +kernel)) rfl
theorem mw_286 : (.instanceMethod ⟨"java/lang/IllegalArgumentException", "<init>", "(Ljava/lang/String;)V"⟩ : Cond) ∈ tb := tb_t (List.mem_of_getElem? (i := 286) (by decide +kernel)) rfl
theorem mw_288 : (.methodLink "java/lang/IllegalArgumentException" 7 ⟨"java/lang/RuntimeException", "<init>", "(Ljava/lang/String;)V"⟩ : Cond) ∈ tb := tb_t (List.mem_of_getElem? (i := 288) (by decide +kernel)) rfl
theorem mw_289 : (.instanceMethod ⟨"java/lang/RuntimeException", "<init>", "(Ljava/lang/String;)V"⟩ : Cond) ∈ tb := tb_t (List.mem_of_getElem? (i := 289) (by decide +kernel)) rfl
theorem mw_291 : (.methodLink "java/lang/RuntimeException" 7 ⟨"java/lang/Exception", "<init>", "(Ljava/lang/String;)V"⟩ : Cond) ∈ tb := tb_t (List.mem_of_getElem? (i := 291) (by decide +kernel)) rfl
theorem mw_292 : (.instanceMethod ⟨"java/lang/Exception", "<init>", "(Ljava/lang/String;)V"⟩ : Cond) ∈ tb := tb_t (List.mem_of_getElem? (i := 292) (by decide +kernel)) rfl
theorem mw_294 : (.methodLink "java/lang/Exception" 7 ⟨"java/lang/Throwable", "<init>", "(Ljava/lang/String;)V"⟩ : Cond) ∈ tb := tb_t (List.mem_of_getElem? (i := 294) (by decide +kernel)) rfl
theorem mw_295 : (.instanceMethod ⟨"java/lang/Throwable", "<init>", "(Ljava/lang/String;)V"⟩ : Cond) ∈ tb := tb_t (List.mem_of_getElem? (i := 295) (by decide +kernel)) rfl
theorem mw_297 : (.fieldLink "java/lang/Throwable" 198 "java/lang/Throwable" "backtrace" "Ljava/lang/Object;" : Cond) ∈ tb := tb_t (List.mem_of_getElem? (i := 297) (by decide +kernel)) rfl
theorem mw_298 : (.fieldLink "java/lang/Throwable" 31 "java/lang/Throwable" "detailMessage" "Ljava/lang/String;" : Cond) ∈ tb := tb_t (List.mem_of_getElem? (i := 298) (by decide +kernel)) rfl
theorem mw_299 : (.fieldLink "java/lang/Throwable" 7 "java/lang/Throwable" "cause" "Ljava/lang/Throwable;" : Cond) ∈ tb := tb_t (List.mem_of_getElem? (i := 299) (by decide +kernel)) rfl
theorem mw_300 : (.fieldLink "java/lang/Throwable" 17 "java/lang/Throwable" "stackTrace" "[Ljava/lang/StackTraceElement;" : Cond) ∈ tb := tb_t (List.mem_of_getElem? (i := 300) (by decide +kernel)) rfl
theorem mw_301 : (.fieldLink "java/lang/Throwable" 24 "java/lang/Throwable" "suppressedExceptions" "Ljava/util/List;" : Cond) ∈ tb := tb_t (List.mem_of_getElem? (i := 301) (by decide +kernel)) rfl
theorem mw_310 : (.arrayClass .byte : Cond) ∈ tb := tb_t (List.mem_of_getElem? (i := 310) (by decide +kernel)) rfl
theorem mw_311 : (.classLink R_Lv 64 "java/lang/IllegalStateException" : Cond) ∈ tb := tb_t (List.mem_of_getElem? (i := 311) (by decide +kernel)) rfl
theorem mw_312 : (.instantiable "java/lang/IllegalStateException" 6 : Cond) ∈ tb := tb_t (List.mem_of_getElem? (i := 312) (by decide +kernel)) rfl
theorem mw_314 : (.selects "java/lang/IllegalStateException" ⟨"java/lang/Throwable", "fillInStackTrace", "(I)Ljava/lang/Throwable;"⟩ ⟨"java/lang/Throwable", "fillInStackTrace", "(I)Ljava/lang/Throwable;"⟩ : Cond) ∈ tb := tb_t (List.mem_of_getElem? (i := 314) (by decide +kernel)) rfl
theorem mw_321 : (.methodLink R_Lv 68 ⟨"java/lang/IllegalStateException", "<init>", "(Ljava/lang/String;)V"⟩ : Cond) ∈ tb := tb_t (List.mem_of_getElem? (i := 321) (by decide +kernel)) rfl
theorem mw_322 : (.instanceMethod ⟨"java/lang/IllegalStateException", "<init>", "(Ljava/lang/String;)V"⟩ : Cond) ∈ tb := tb_t (List.mem_of_getElem? (i := 322) (by decide +kernel)) rfl
theorem mw_324 : (.methodLink "java/lang/IllegalStateException" 7 ⟨"java/lang/RuntimeException", "<init>", "(Ljava/lang/String;)V"⟩ : Cond) ∈ tb := tb_t (List.mem_of_getElem? (i := 324) (by decide +kernel)) rfl
theorem mw_327 : (.methodLink R_Lv 46 y_Lv_nextsOf : Cond) ∈ tb := tb_t (List.mem_of_getElem? (i := 327) (by decide +kernel)) rfl
theorem mw_329 : (.instanceMethod y_Lv_nextsOf : Cond) ∈ tb := tb_t (List.mem_of_getElem? (i := 329) (by decide +kernel)) rfl
theorem mw_331 : (.methodLink R_Lv 50 y_Lv_usesOf : Cond) ∈ tb := tb_t (List.mem_of_getElem? (i := 331) (by decide +kernel)) rfl
theorem mw_333 : (.instanceMethod y_Lv_usesOf : Cond) ∈ tb := tb_t (List.mem_of_getElem? (i := 333) (by decide +kernel)) rfl
theorem mw_335 : (.methodLink R_Lv 53 y_Lv_partsOf : Cond) ∈ tb := tb_t (List.mem_of_getElem? (i := 335) (by decide +kernel)) rfl
theorem mw_337 : (.instanceMethod y_Lv_partsOf : Cond) ∈ tb := tb_t (List.mem_of_getElem? (i := 337) (by decide +kernel)) rfl
theorem mw_339 : (.methodLink R_Lv 77 y_Pt_only : Cond) ∈ tb := tb_t (List.mem_of_getElem? (i := 339) (by decide +kernel)) rfl
theorem mw_340 : (.static y_Pt_only : Cond) ∈ tb := tb_t (List.mem_of_getElem? (i := 340) (by decide +kernel)) rfl
theorem mw_342 : (.methodLink R_Lv 80 y_Lv_partsIn : Cond) ∈ tb := tb_t (List.mem_of_getElem? (i := 342) (by decide +kernel)) rfl
theorem mw_343 : (.instanceMethod y_Lv_partsIn : Cond) ∈ tb := tb_t (List.mem_of_getElem? (i := 343) (by decide +kernel)) rfl
theorem mw_344 : (.selects R_Lv y_Lv_partsIn y_Lv_partsIn : Cond) ∈ tb := tb_t (List.mem_of_getElem? (i := 344) (by decide +kernel)) rfl
theorem mw_346 : (.methodLink R_Lv 83 y_Pt_raised : Cond) ∈ tb := tb_t (List.mem_of_getElem? (i := 346) (by decide +kernel)) rfl
theorem mw_347 : (.static y_Pt_raised : Cond) ∈ tb := tb_t (List.mem_of_getElem? (i := 347) (by decide +kernel)) rfl
theorem mw_349 : (.methodLink R_Pt 13 y_Pt_at : Cond) ∈ tb := tb_t (List.mem_of_getElem? (i := 349) (by decide +kernel)) rfl
theorem mw_350 : (.static y_Pt_at : Cond) ∈ tb := tb_t (List.mem_of_getElem? (i := 350) (by decide +kernel)) rfl
theorem mw_352 : (.constantLong R_Pt 11 255 : Cond) ∈ tb := tb_t (List.mem_of_getElem? (i := 352) (by decide +kernel)) rfl
theorem mw_353 : (.methodLink R_Pt 17 y_Pt_only : Cond) ∈ tb := tb_t (List.mem_of_getElem? (i := 353) (by decide +kernel)) rfl
theorem mw_354 : (.methodLink R_Lv 87 y_Pt_joined : Cond) ∈ tb := tb_t (List.mem_of_getElem? (i := 354) (by decide +kernel)) rfl
theorem mw_355 : (.static y_Pt_joined : Cond) ∈ tb := tb_t (List.mem_of_getElem? (i := 355) (by decide +kernel)) rfl
theorem mw_357 : (.methodLink R_Pt 21 ⟨"java/lang/Math", "max", "(II)I"⟩ : Cond) ∈ tb := tb_t (List.mem_of_getElem? (i := 357) (by decide +kernel)) rfl
theorem mw_358 : (.methodLink R_Lv 91 y_Pt_vanish : Cond) ∈ tb := tb_t (List.mem_of_getElem? (i := 358) (by decide +kernel)) rfl
theorem mw_359 : (.static y_Pt_vanish : Cond) ∈ tb := tb_t (List.mem_of_getElem? (i := 359) (by decide +kernel)) rfl
theorem mw_361 : (.methodLink R_Law 70 y_Law_parameter : Cond) ∈ tb := tb_t (List.mem_of_getElem? (i := 361) (by decide +kernel)) rfl
theorem mw_362 : (.static y_Law_parameter : Cond) ∈ tb := tb_t (List.mem_of_getElem? (i := 362) (by decide +kernel)) rfl
theorem mw_364 : (.classLink R_Law 19 "java/lang/IndexOutOfBoundsException" : Cond) ∈ tb := tb_t (List.mem_of_getElem? (i := 364) (by decide +kernel)) rfl
theorem mw_365 : (.methodLink R_Law 15 y_LR_parameter : Cond) ∈ tb := tb_t (List.mem_of_getElem? (i := 365) (by decide +kernel)) rfl
theorem mw_366 : (.instanceMethod y_LR_parameter : Cond) ∈ tb := tb_t (List.mem_of_getElem? (i := 366) (by decide +kernel)) rfl
theorem mw_367 : (.selects R_LR y_LR_parameter y_LR_parameter : Cond) ∈ tb := tb_t (List.mem_of_getElem? (i := 367) (by decide +kernel)) rfl
theorem mw_369 : (.methodLink R_LR 36 y_LR_checkParameter : Cond) ∈ tb := tb_t (List.mem_of_getElem? (i := 369) (by decide +kernel)) rfl
theorem mw_370 : (.static y_LR_checkParameter : Cond) ∈ tb := tb_t (List.mem_of_getElem? (i := 370) (by decide +kernel)) rfl
theorem mw_372 : (.classLink R_LR 58 "java/lang/IndexOutOfBoundsException" : Cond) ∈ tb := tb_t (List.mem_of_getElem? (i := 372) (by decide +kernel)) rfl
theorem mw_373 : (.instantiable "java/lang/IndexOutOfBoundsException" 6 : Cond) ∈ tb := tb_t (List.mem_of_getElem? (i := 373) (by decide +kernel)) rfl
theorem mw_375 : (.selects "java/lang/IndexOutOfBoundsException" ⟨"java/lang/Throwable", "fillInStackTrace", "(I)Ljava/lang/Throwable;"⟩ ⟨"java/lang/Throwable", "fillInStackTrace", "(I)Ljava/lang/Throwable;"⟩ : Cond) ∈ tb := tb_t (List.mem_of_getElem? (i := 375) (by decide +kernel)) rfl
theorem mw_382 : (.methodLink R_LR 62 ⟨"java/lang/IndexOutOfBoundsException", "<init>", "(Ljava/lang/String;)V"⟩ : Cond) ∈ tb := tb_t (List.mem_of_getElem? (i := 382) (by decide +kernel)) rfl
theorem mw_383 : (.instanceMethod ⟨"java/lang/IndexOutOfBoundsException", "<init>", "(Ljava/lang/String;)V"⟩ : Cond) ∈ tb := tb_t (List.mem_of_getElem? (i := 383) (by decide +kernel)) rfl
theorem mw_385 : (.methodLink "java/lang/IndexOutOfBoundsException" 7 ⟨"java/lang/RuntimeException", "<init>", "(Ljava/lang/String;)V"⟩ : Cond) ∈ tb := tb_t (List.mem_of_getElem? (i := 385) (by decide +kernel)) rfl
theorem mw_388 : (.methodLink R_Law 74 y_Law_next : Cond) ∈ tb := tb_t (List.mem_of_getElem? (i := 388) (by decide +kernel)) rfl
theorem mw_389 : (.static y_Law_next : Cond) ∈ tb := tb_t (List.mem_of_getElem? (i := 389) (by decide +kernel)) rfl
theorem mw_391 : (.classLink R_Law 24 "java/lang/IllegalArgumentException" : Cond) ∈ tb := tb_t (List.mem_of_getElem? (i := 391) (by decide +kernel)) rfl
theorem mw_392 : (.methodLink R_Law 21 y_LR_next : Cond) ∈ tb := tb_t (List.mem_of_getElem? (i := 392) (by decide +kernel)) rfl
theorem mw_393 : (.instanceMethod y_LR_next : Cond) ∈ tb := tb_t (List.mem_of_getElem? (i := 393) (by decide +kernel)) rfl
theorem mw_394 : (.selects R_LR y_LR_next y_LR_next : Cond) ∈ tb := tb_t (List.mem_of_getElem? (i := 394) (by decide +kernel)) rfl
theorem mw_396 : (.methodLink R_LR 40 y_LR_checkLevel : Cond) ∈ tb := tb_t (List.mem_of_getElem? (i := 396) (by decide +kernel)) rfl
theorem mw_398 : (.instanceMethod y_LR_checkLevel : Cond) ∈ tb := tb_t (List.mem_of_getElem? (i := 398) (by decide +kernel)) rfl
theorem mw_401 : (.methodLink R_Law 77 y_Law_join : Cond) ∈ tb := tb_t (List.mem_of_getElem? (i := 401) (by decide +kernel)) rfl
theorem mw_402 : (.static y_Law_join : Cond) ∈ tb := tb_t (List.mem_of_getElem? (i := 402) (by decide +kernel)) rfl
theorem mw_404 : (.methodLink R_Law 26 y_LR_join : Cond) ∈ tb := tb_t (List.mem_of_getElem? (i := 404) (by decide +kernel)) rfl
theorem mw_405 : (.instanceMethod y_LR_join : Cond) ∈ tb := tb_t (List.mem_of_getElem? (i := 405) (by decide +kernel)) rfl
theorem mw_406 : (.selects R_LR y_LR_join y_LR_join : Cond) ∈ tb := tb_t (List.mem_of_getElem? (i := 406) (by decide +kernel)) rfl
theorem mw_408 : (.methodLink R_Law 86 y_Law_put : Cond) ∈ tb := tb_t (List.mem_of_getElem? (i := 408) (by decide +kernel)) rfl
theorem mw_409 : (.static y_Law_put : Cond) ∈ tb := tb_t (List.mem_of_getElem? (i := 409) (by decide +kernel)) rfl
theorem mw_411 : (.methodLink R_Law 30 y_LR_put : Cond) ∈ tb := tb_t (List.mem_of_getElem? (i := 411) (by decide +kernel)) rfl
theorem mw_412 : (.instanceMethod y_LR_put : Cond) ∈ tb := tb_t (List.mem_of_getElem? (i := 412) (by decide +kernel)) rfl
theorem mw_413 : (.selects R_LR y_LR_put y_LR_put : Cond) ∈ tb := tb_t (List.mem_of_getElem? (i := 413) (by decide +kernel)) rfl
theorem mw_415 : (.methodLink R_LR 51 y_Rp_replaced : Cond) ∈ tb := tb_t (List.mem_of_getElem? (i := 415) (by decide +kernel)) rfl
theorem mw_416 : (.instanceMethod y_Rp_replaced : Cond) ∈ tb := tb_t (List.mem_of_getElem? (i := 416) (by decide +kernel)) rfl
theorem mw_417 : (.selects R_Rp y_Rp_replaced y_Rp_replaced : Cond) ∈ tb := tb_t (List.mem_of_getElem? (i := 417) (by decide +kernel)) rfl
theorem mw_419 : (.methodLink R_Rp 22 y_Rp_resultAhead : Cond) ∈ tb := tb_t (List.mem_of_getElem? (i := 419) (by decide +kernel)) rfl
theorem mw_421 : (.instanceMethod y_Rp_resultAhead : Cond) ∈ tb := tb_t (List.mem_of_getElem? (i := 421) (by decide +kernel)) rfl
theorem mw_423 : (.methodLink R_Rp 33 y_Lv_usesParameter : Cond) ∈ tb := tb_t (List.mem_of_getElem? (i := 423) (by decide +kernel)) rfl
theorem mw_424 : (.instanceMethod y_Lv_usesParameter : Cond) ∈ tb := tb_t (List.mem_of_getElem? (i := 424) (by decide +kernel)) rfl
theorem mw_425 : (.selects R_Lv y_Lv_usesParameter y_Lv_usesParameter : Cond) ∈ tb := tb_t (List.mem_of_getElem? (i := 425) (by decide +kernel)) rfl
theorem mw_427 : (.methodLink R_Rp 39 y_Lv_isParameter : Cond) ∈ tb := tb_t (List.mem_of_getElem? (i := 427) (by decide +kernel)) rfl
theorem mw_428 : (.instanceMethod y_Lv_isParameter : Cond) ∈ tb := tb_t (List.mem_of_getElem? (i := 428) (by decide +kernel)) rfl
theorem mw_429 : (.selects R_Lv y_Lv_isParameter y_Lv_isParameter : Cond) ∈ tb := tb_t (List.mem_of_getElem? (i := 429) (by decide +kernel)) rfl
theorem mw_431 : (.methodLink R_Rp 26 y_Rp_missingPart : Cond) ∈ tb := tb_t (List.mem_of_getElem? (i := 431) (by decide +kernel)) rfl
theorem mw_433 : (.instanceMethod y_Rp_missingPart : Cond) ∈ tb := tb_t (List.mem_of_getElem? (i := 433) (by decide +kernel)) rfl
theorem mw_435 : (.methodLink R_Rp 42 y_Lv_detail : Cond) ∈ tb := tb_t (List.mem_of_getElem? (i := 435) (by decide +kernel)) rfl
theorem mw_436 : (.methodLink R_Rp 30 y_Rp_remade : Cond) ∈ tb := tb_t (List.mem_of_getElem? (i := 436) (by decide +kernel)) rfl
theorem mw_438 : (.instanceMethod y_Rp_remade : Cond) ∈ tb := tb_t (List.mem_of_getElem? (i := 438) (by decide +kernel)) rfl
theorem mw_440 : (.methodLink R_Rp 46 y_Lv_made : Cond) ∈ tb := tb_t (List.mem_of_getElem? (i := 440) (by decide +kernel)) rfl
theorem mw_441 : (.methodLink R_Law 97 y_Law_part : Cond) ∈ tb := tb_t (List.mem_of_getElem? (i := 441) (by decide +kernel)) rfl
theorem mw_442 : (.static y_Law_part : Cond) ∈ tb := tb_t (List.mem_of_getElem? (i := 442) (by decide +kernel)) rfl
theorem mw_444 : (.methodLink R_Law 34 y_LR_part : Cond) ∈ tb := tb_t (List.mem_of_getElem? (i := 444) (by decide +kernel)) rfl
theorem mw_445 : (.instanceMethod y_LR_part : Cond) ∈ tb := tb_t (List.mem_of_getElem? (i := 445) (by decide +kernel)) rfl
theorem mw_446 : (.selects R_LR y_LR_part y_LR_part : Cond) ∈ tb := tb_t (List.mem_of_getElem? (i := 446) (by decide +kernel)) rfl
theorem mw_449 : (.methodLink R_LR 65 y_Lv_partsIn : Cond) ∈ tb := tb_t (List.mem_of_getElem? (i := 449) (by decide +kernel)) rfl
theorem mw_450 : (.methodLink R_LR 71 y_Pt_at : Cond) ∈ tb := tb_t (List.mem_of_getElem? (i := 450) (by decide +kernel)) rfl
theorem mw_451 : (.methodLink R_Law 100 y_Law_isAtMost : Cond) ∈ tb := tb_t (List.mem_of_getElem? (i := 451) (by decide +kernel)) rfl
theorem mw_452 : (.static y_Law_isAtMost : Cond) ∈ tb := tb_t (List.mem_of_getElem? (i := 452) (by decide +kernel)) rfl
theorem mw_454 : (.methodLink R_Law 37 y_LR_isAtMost : Cond) ∈ tb := tb_t (List.mem_of_getElem? (i := 454) (by decide +kernel)) rfl
theorem mw_455 : (.instanceMethod y_LR_isAtMost : Cond) ∈ tb := tb_t (List.mem_of_getElem? (i := 455) (by decide +kernel)) rfl
theorem mw_456 : (.selects R_LR y_LR_isAtMost y_LR_isAtMost : Cond) ∈ tb := tb_t (List.mem_of_getElem? (i := 456) (by decide +kernel)) rfl
theorem mw_458 : (.methodLink R_LR 75 y_Lv_firstRegionAbove : Cond) ∈ tb := tb_t (List.mem_of_getElem? (i := 458) (by decide +kernel)) rfl
theorem mw_459 : (.instanceMethod y_Lv_firstRegionAbove : Cond) ∈ tb := tb_t (List.mem_of_getElem? (i := 459) (by decide +kernel)) rfl
theorem mw_460 : (.selects R_Lv y_Lv_firstRegionAbove y_Lv_firstRegionAbove : Cond) ∈ tb := tb_t (List.mem_of_getElem? (i := 460) (by decide +kernel)) rfl
theorem mw_462 : (.methodLink R_Lv 99 y_Pt_areAtMost : Cond) ∈ tb := tb_t (List.mem_of_getElem? (i := 462) (by decide +kernel)) rfl
theorem mw_463 : (.static y_Pt_areAtMost : Cond) ∈ tb := tb_t (List.mem_of_getElem? (i := 463) (by decide +kernel)) rfl
theorem mw_465 : (.methodLink R_Pt 27 y_Pt_lastHigher : Cond) ∈ tb := tb_t (List.mem_of_getElem? (i := 465) (by decide +kernel)) rfl
theorem mw_466 : (.static y_Pt_lastHigher : Cond) ∈ tb := tb_t (List.mem_of_getElem? (i := 466) (by decide +kernel)) rfl
theorem mw_468 : (.methodLink R_Pt 31 y_Pt_valueAtOnes : Cond) ∈ tb := tb_t (List.mem_of_getElem? (i := 468) (by decide +kernel)) rfl
theorem mw_469 : (.static y_Pt_valueAtOnes : Cond) ∈ tb := tb_t (List.mem_of_getElem? (i := 469) (by decide +kernel)) rfl
theorem mw_471 : (.methodLink R_Law 104 y_Law_isSame : Cond) ∈ tb := tb_t (List.mem_of_getElem? (i := 471) (by decide +kernel)) rfl
theorem mw_472 : (.static y_Law_isSame : Cond) ∈ tb := tb_t (List.mem_of_getElem? (i := 472) (by decide +kernel)) rfl
theorem mw_474 : (.methodLink R_Law 41 y_LR_isSame : Cond) ∈ tb := tb_t (List.mem_of_getElem? (i := 474) (by decide +kernel)) rfl
theorem mw_475 : (.instanceMethod y_LR_isSame : Cond) ∈ tb := tb_t (List.mem_of_getElem? (i := 475) (by decide +kernel)) rfl
theorem mw_476 : (.selects R_LR y_LR_isSame y_LR_isSame : Cond) ∈ tb := tb_t (List.mem_of_getElem? (i := 476) (by decide +kernel)) rfl
theorem mw_478 : (.methodLink R_LR 78 y_Lv_haveSameParts : Cond) ∈ tb := tb_t (List.mem_of_getElem? (i := 478) (by decide +kernel)) rfl
theorem mw_479 : (.instanceMethod y_Lv_haveSameParts : Cond) ∈ tb := tb_t (List.mem_of_getElem? (i := 479) (by decide +kernel)) rfl
theorem mw_480 : (.selects R_Lv y_Lv_haveSameParts y_Lv_haveSameParts : Cond) ∈ tb := tb_t (List.mem_of_getElem? (i := 480) (by decide +kernel)) rfl
theorem mw_482 : (.methodLink R_Law 107 y_Law_least : Cond) ∈ tb := tb_t (List.mem_of_getElem? (i := 482) (by decide +kernel)) rfl
theorem mw_483 : (.static y_Law_least : Cond) ∈ tb := tb_t (List.mem_of_getElem? (i := 483) (by decide +kernel)) rfl
theorem mw_485 : (.methodLink R_Law 44 y_LR_least : Cond) ∈ tb := tb_t (List.mem_of_getElem? (i := 485) (by decide +kernel)) rfl
theorem mw_486 : (.instanceMethod y_LR_least : Cond) ∈ tb := tb_t (List.mem_of_getElem? (i := 486) (by decide +kernel)) rfl
theorem mw_487 : (.selects R_LR y_LR_least y_LR_least : Cond) ∈ tb := tb_t (List.mem_of_getElem? (i := 487) (by decide +kernel)) rfl
theorem mw_489 : (.methodLink R_LR 82 y_Lv_leastLike : Cond) ∈ tb := tb_t (List.mem_of_getElem? (i := 489) (by decide +kernel)) rfl
theorem mw_490 : (.instanceMethod y_Lv_leastLike : Cond) ∈ tb := tb_t (List.mem_of_getElem? (i := 490) (by decide +kernel)) rfl
theorem mw_491 : (.selects R_Lv y_Lv_leastLike y_Lv_leastLike : Cond) ∈ tb := tb_t (List.mem_of_getElem? (i := 491) (by decide +kernel)) rfl
theorem mw_493 : (.methodLink R_Lv 103 y_Lv_haveSameParts : Cond) ∈ tb := tb_t (List.mem_of_getElem? (i := 493) (by decide +kernel)) rfl
theorem mw_494 : (.methodLink R_Law 110 y_Law_above : Cond) ∈ tb := tb_t (List.mem_of_getElem? (i := 494) (by decide +kernel)) rfl
theorem mw_495 : (.static y_Law_above : Cond) ∈ tb := tb_t (List.mem_of_getElem? (i := 495) (by decide +kernel)) rfl
theorem mw_497 : (.methodLink R_Law 47 y_LR_above : Cond) ∈ tb := tb_t (List.mem_of_getElem? (i := 497) (by decide +kernel)) rfl
theorem mw_498 : (.instanceMethod y_LR_above : Cond) ∈ tb := tb_t (List.mem_of_getElem? (i := 498) (by decide +kernel)) rfl
theorem mw_499 : (.selects R_LR y_LR_above y_LR_above : Cond) ∈ tb := tb_t (List.mem_of_getElem? (i := 499) (by decide +kernel)) rfl
theorem mw_501 : (.constantLong R_LR 86 (-1) : Cond) ∈ tb := tb_t (List.mem_of_getElem? (i := 501) (by decide +kernel)) rfl
theorem mw_502 : (.methodLink R_LR 88 y_Pt_pointAbove : Cond) ∈ tb := tb_t (List.mem_of_getElem? (i := 502) (by decide +kernel)) rfl
theorem mw_503 : (.static y_Pt_pointAbove : Cond) ∈ tb := tb_t (List.mem_of_getElem? (i := 503) (by decide +kernel)) rfl
theorem mw_505 : (.methodLink R_Pt 35 y_Pt_onesOf : Cond) ∈ tb := tb_t (List.mem_of_getElem? (i := 505) (by decide +kernel)) rfl
theorem mw_506 : (.static y_Pt_onesOf : Cond) ∈ tb := tb_t (List.mem_of_getElem? (i := 506) (by decide +kernel)) rfl
theorem mw_508 : (.methodLink R_Law 113 y_Law_unknown : Cond) ∈ tb := tb_t (List.mem_of_getElem? (i := 508) (by decide +kernel)) rfl
theorem mw_509 : (.static y_Law_unknown : Cond) ∈ tb := tb_t (List.mem_of_getElem? (i := 509) (by decide +kernel)) rfl
theorem mw_511 : (.methodLink R_Law 51 y_LR_unknown : Cond) ∈ tb := tb_t (List.mem_of_getElem? (i := 511) (by decide +kernel)) rfl
theorem mw_512 : (.instanceMethod y_LR_unknown : Cond) ∈ tb := tb_t (List.mem_of_getElem? (i := 512) (by decide +kernel)) rfl
theorem mw_513 : (.selects R_LR y_LR_unknown y_LR_unknown : Cond) ∈ tb := tb_t (List.mem_of_getElem? (i := 513) (by decide +kernel)) rfl
theorem mw_515 : (.classLink R_LR 96 "java/lang/IllegalStateException" : Cond) ∈ tb := tb_t (List.mem_of_getElem? (i := 515) (by decide +kernel)) rfl
theorem mw_517 : (.methodLink R_LR 100 ⟨"java/lang/IllegalStateException", "<init>", "(Ljava/lang/String;)V"⟩ : Cond) ∈ tb := tb_t (List.mem_of_getElem? (i := 517) (by decide +kernel)) rfl
theorem mw_518 : (.methodLink R_LR 101 y_Nd_addUnknown : Cond) ∈ tb := tb_t (List.mem_of_getElem? (i := 518) (by decide +kernel)) rfl
theorem mw_519 : (.instanceMethod y_Nd_addUnknown : Cond) ∈ tb := tb_t (List.mem_of_getElem? (i := 519) (by decide +kernel)) rfl
theorem mw_520 : (.selects R_Nd y_Nd_addUnknown y_Nd_addUnknown : Cond) ∈ tb := tb_t (List.mem_of_getElem? (i := 520) (by decide +kernel)) rfl
theorem mw_522 : (.methodLink R_Law 116 y_Law_need : Cond) ∈ tb := tb_t (List.mem_of_getElem? (i := 522) (by decide +kernel)) rfl
theorem mw_523 : (.static y_Law_need : Cond) ∈ tb := tb_t (List.mem_of_getElem? (i := 523) (by decide +kernel)) rfl
theorem mw_525 : (.methodLink R_Law 54 y_LR_need : Cond) ∈ tb := tb_t (List.mem_of_getElem? (i := 525) (by decide +kernel)) rfl
theorem mw_526 : (.instanceMethod y_LR_need : Cond) ∈ tb := tb_t (List.mem_of_getElem? (i := 526) (by decide +kernel)) rfl
theorem mw_527 : (.selects R_LR y_LR_need y_LR_need : Cond) ∈ tb := tb_t (List.mem_of_getElem? (i := 527) (by decide +kernel)) rfl
theorem mw_529 : (.methodLink R_LR 104 y_Nd_isSide : Cond) ∈ tb := tb_t (List.mem_of_getElem? (i := 529) (by decide +kernel)) rfl
theorem mw_530 : (.instanceMethod y_Nd_isSide : Cond) ∈ tb := tb_t (List.mem_of_getElem? (i := 530) (by decide +kernel)) rfl
theorem mw_531 : (.selects R_Nd y_Nd_isSide y_Nd_isSide : Cond) ∈ tb := tb_t (List.mem_of_getElem? (i := 531) (by decide +kernel)) rfl
theorem mw_534 : (.classLink R_LR 109 "java/lang/IllegalArgumentException" : Cond) ∈ tb := tb_t (List.mem_of_getElem? (i := 534) (by decide +kernel)) rfl
theorem mw_536 : (.methodLink R_LR 113 ⟨"java/lang/IllegalArgumentException", "<init>", "(Ljava/lang/String;)V"⟩ : Cond) ∈ tb := tb_t (List.mem_of_getElem? (i := 536) (by decide +kernel)) rfl
theorem mw_538 : (.methodLink R_LR 119 y_Nd_add : Cond) ∈ tb := tb_t (List.mem_of_getElem? (i := 538) (by decide +kernel)) rfl
theorem mw_539 : (.instanceMethod y_Nd_add : Cond) ∈ tb := tb_t (List.mem_of_getElem? (i := 539) (by decide +kernel)) rfl
theorem mw_540 : (.selects R_Nd y_Nd_add y_Nd_add : Cond) ∈ tb := tb_t (List.mem_of_getElem? (i := 540) (by decide +kernel)) rfl
theorem mw_542 : (.classLink R_Law 58 R_Mo : Cond) ∈ tb := tb_t (List.mem_of_getElem? (i := 542) (by decide +kernel)) rfl
theorem mw_543 : (.instantiable R_Mo 17 : Cond) ∈ tb := tb_t (List.mem_of_getElem? (i := 543) (by decide +kernel)) rfl
theorem mw_544 : (.methodLink R_Law 60 y_Mo_init : Cond) ∈ tb := tb_t (List.mem_of_getElem? (i := 544) (by decide +kernel)) rfl
theorem mw_545 : (.instanceMethod y_Mo_init : Cond) ∈ tb := tb_t (List.mem_of_getElem? (i := 545) (by decide +kernel)) rfl
theorem mw_547 : (.methodLink R_Mo 1 ⟨"java/lang/Object", "<init>", "()V"⟩ : Cond) ∈ tb := tb_t (List.mem_of_getElem? (i := 547) (by decide +kernel)) rfl
theorem mw_548 : (.fieldLink R_Mo 50 R_Mo "thrown" "I" : Cond) ∈ tb := tb_t (List.mem_of_getElem? (i := 548) (by decide +kernel)) rfl
theorem mw_549 : (.fieldLink R_Mo 7 R_Mo "kinds" "[I" : Cond) ∈ tb := tb_t (List.mem_of_getElem? (i := 549) (by decide +kernel)) rfl
theorem mw_550 : (.fieldLink R_Mo 13 R_Mo "firsts" "[I" : Cond) ∈ tb := tb_t (List.mem_of_getElem? (i := 550) (by decide +kernel)) rfl
theorem mw_551 : (.fieldLink R_Mo 16 R_Mo "seconds" "[I" : Cond) ∈ tb := tb_t (List.mem_of_getElem? (i := 551) (by decide +kernel)) rfl
theorem mw_552 : (.fieldLink R_Mo 19 R_Mo "deeps" "[I" : Cond) ∈ tb := tb_t (List.mem_of_getElem? (i := 552) (by decide +kernel)) rfl
theorem mw_553 : (.fieldLink R_Mo 54 R_Mo "levels" "I" : Cond) ∈ tb := tb_t (List.mem_of_getElem? (i := 553) (by decide +kernel)) rfl
theorem mw_554 : (.fieldLink R_Mo 22 R_Mo "numbers" "[I" : Cond) ∈ tb := tb_t (List.mem_of_getElem? (i := 554) (by decide +kernel)) rfl
theorem mw_555 : (.fieldLink R_Mo 25 R_Mo "values" "[I" : Cond) ∈ tb := tb_t (List.mem_of_getElem? (i := 555) (by decide +kernel)) rfl
theorem mw_556 : (.fieldLink R_Mo 28 R_Mo "becomes" "[I" : Cond) ∈ tb := tb_t (List.mem_of_getElem? (i := 556) (by decide +kernel)) rfl
theorem mw_557 : (.fieldLink R_Mo 31 R_Mo "waits" "[I" : Cond) ∈ tb := tb_t (List.mem_of_getElem? (i := 557) (by decide +kernel)) rfl
theorem mw_558 : (.fieldLink R_Mo 34 R_Mo "lefts" "[I" : Cond) ∈ tb := tb_t (List.mem_of_getElem? (i := 558) (by decide +kernel)) rfl
theorem mw_559 : (.fieldLink R_Mo 37 R_Mo "adds" "[I" : Cond) ∈ tb := tb_t (List.mem_of_getElem? (i := 559) (by decide +kernel)) rfl
theorem mw_560 : (.fieldLink R_Mo 40 R_Mo "rights" "[I" : Cond) ∈ tb := tb_t (List.mem_of_getElem? (i := 560) (by decide +kernel)) rfl
theorem mw_561 : (.fieldLink R_Mo 43 R_Mo "unknown" "[I" : Cond) ∈ tb := tb_t (List.mem_of_getElem? (i := 561) (by decide +kernel)) rfl
theorem mw_562 : (.fieldLink R_Mo 46 R_Mo "counts" "[Z" : Cond) ∈ tb := tb_t (List.mem_of_getElem? (i := 562) (by decide +kernel)) rfl
theorem mw_563 : (.fieldLink R_Mo 102 R_Mo "unknowns" "I" : Cond) ∈ tb := tb_t (List.mem_of_getElem? (i := 563) (by decide +kernel)) rfl
theorem mw_564 : (.fieldLink R_Mo 108 R_Mo "needs" "I" : Cond) ∈ tb := tb_t (List.mem_of_getElem? (i := 564) (by decide +kernel)) rfl
theorem mw_600 : (.methodLink R_Law 67 y_Mo_thrown : Cond) ∈ tb := tb_t (List.mem_of_getElem? (i := 600) (by decide +kernel)) rfl
theorem mw_601 : (.instanceMethod y_Mo_thrown : Cond) ∈ tb := tb_t (List.mem_of_getElem? (i := 601) (by decide +kernel)) rfl
theorem mw_602 : (.selects R_Mo y_Mo_thrown y_Mo_thrown : Cond) ∈ tb := tb_t (List.mem_of_getElem? (i := 602) (by decide +kernel)) rfl
theorem mw_604 : (.methodLink R_Law 66 y_Mo_zero : Cond) ∈ tb := tb_t (List.mem_of_getElem? (i := 604) (by decide +kernel)) rfl
theorem mw_605 : (.instanceMethod y_Mo_zero : Cond) ∈ tb := tb_t (List.mem_of_getElem? (i := 605) (by decide +kernel)) rfl
theorem mw_606 : (.selects R_Mo y_Mo_zero y_Mo_zero : Cond) ∈ tb := tb_t (List.mem_of_getElem? (i := 606) (by decide +kernel)) rfl
theorem mw_608 : (.methodLink R_Mo 61 y_Mo_made : Cond) ∈ tb := tb_t (List.mem_of_getElem? (i := 608) (by decide +kernel)) rfl
theorem mw_610 : (.instanceMethod y_Mo_made : Cond) ∈ tb := tb_t (List.mem_of_getElem? (i := 610) (by decide +kernel)) rfl
theorem mw_612 : (.methodLink R_Mo 57 y_Mo_make : Cond) ∈ tb := tb_t (List.mem_of_getElem? (i := 612) (by decide +kernel)) rfl
theorem mw_614 : (.instanceMethod y_Mo_make : Cond) ∈ tb := tb_t (List.mem_of_getElem? (i := 614) (by decide +kernel)) rfl
theorem mw_616 : (.methodLink R_Law 73 y_Mo_parameter : Cond) ∈ tb := tb_t (List.mem_of_getElem? (i := 616) (by decide +kernel)) rfl
theorem mw_617 : (.instanceMethod y_Mo_parameter : Cond) ∈ tb := tb_t (List.mem_of_getElem? (i := 617) (by decide +kernel)) rfl
theorem mw_618 : (.selects R_Mo y_Mo_parameter y_Mo_parameter : Cond) ∈ tb := tb_t (List.mem_of_getElem? (i := 618) (by decide +kernel)) rfl
theorem mw_620 : (.methodLink R_Mo 65 y_Mo_refuses : Cond) ∈ tb := tb_t (List.mem_of_getElem? (i := 620) (by decide +kernel)) rfl
theorem mw_622 : (.instanceMethod y_Mo_refuses : Cond) ∈ tb := tb_t (List.mem_of_getElem? (i := 622) (by decide +kernel)) rfl
theorem mw_624 : (.methodLink R_Law 76 y_Mo_next : Cond) ∈ tb := tb_t (List.mem_of_getElem? (i := 624) (by decide +kernel)) rfl
theorem mw_625 : (.instanceMethod y_Mo_next : Cond) ∈ tb := tb_t (List.mem_of_getElem? (i := 625) (by decide +kernel)) rfl
theorem mw_626 : (.selects R_Mo y_Mo_next y_Mo_next : Cond) ∈ tb := tb_t (List.mem_of_getElem? (i := 626) (by decide +kernel)) rfl
theorem mw_628 : (.methodLink R_Mo 69 y_Mo_isLevel : Cond) ∈ tb := tb_t (List.mem_of_getElem? (i := 628) (by decide +kernel)) rfl
theorem mw_630 : (.instanceMethod y_Mo_isLevel : Cond) ∈ tb := tb_t (List.mem_of_getElem? (i := 630) (by decide +kernel)) rfl
theorem mw_632 : (.methodLink R_Law 80 y_Mo_join : Cond) ∈ tb := tb_t (List.mem_of_getElem? (i := 632) (by decide +kernel)) rfl
theorem mw_633 : (.instanceMethod y_Mo_join : Cond) ∈ tb := tb_t (List.mem_of_getElem? (i := 633) (by decide +kernel)) rfl
theorem mw_634 : (.selects R_Mo y_Mo_join y_Mo_join : Cond) ∈ tb := tb_t (List.mem_of_getElem? (i := 634) (by decide +kernel)) rfl
theorem mw_636 : (.methodLink R_Law 85 y_Mo_level : Cond) ∈ tb := tb_t (List.mem_of_getElem? (i := 636) (by decide +kernel)) rfl
theorem mw_637 : (.instanceMethod y_Mo_level : Cond) ∈ tb := tb_t (List.mem_of_getElem? (i := 637) (by decide +kernel)) rfl
theorem mw_638 : (.selects R_Mo y_Mo_level y_Mo_level : Cond) ∈ tb := tb_t (List.mem_of_getElem? (i := 638) (by decide +kernel)) rfl
theorem mw_640 : (.methodLink R_Law 89 y_Mo_put : Cond) ∈ tb := tb_t (List.mem_of_getElem? (i := 640) (by decide +kernel)) rfl
theorem mw_641 : (.instanceMethod y_Mo_put : Cond) ∈ tb := tb_t (List.mem_of_getElem? (i := 641) (by decide +kernel)) rfl
theorem mw_642 : (.selects R_Mo y_Mo_put y_Mo_put : Cond) ∈ tb := tb_t (List.mem_of_getElem? (i := 642) (by decide +kernel)) rfl
theorem mw_644 : (.methodLink R_Mo 72 y_Mo_changed : Cond) ∈ tb := tb_t (List.mem_of_getElem? (i := 644) (by decide +kernel)) rfl
theorem mw_646 : (.instanceMethod y_Mo_changed : Cond) ∈ tb := tb_t (List.mem_of_getElem? (i := 646) (by decide +kernel)) rfl
theorem mw_648 : (.methodLink R_Law 96 y_Mo_value : Cond) ∈ tb := tb_t (List.mem_of_getElem? (i := 648) (by decide +kernel)) rfl
theorem mw_649 : (.instanceMethod y_Mo_value : Cond) ∈ tb := tb_t (List.mem_of_getElem? (i := 649) (by decide +kernel)) rfl
theorem mw_650 : (.selects R_Mo y_Mo_value y_Mo_value : Cond) ∈ tb := tb_t (List.mem_of_getElem? (i := 650) (by decide +kernel)) rfl
theorem mw_652 : (.constantLong R_Mo 76 4095 : Cond) ∈ tb := tb_t (List.mem_of_getElem? (i := 652) (by decide +kernel)) rfl
theorem mw_653 : (.methodLink R_Mo 78 y_Mo_reckon : Cond) ∈ tb := tb_t (List.mem_of_getElem? (i := 653) (by decide +kernel)) rfl
theorem mw_655 : (.instanceMethod y_Mo_reckon : Cond) ∈ tb := tb_t (List.mem_of_getElem? (i := 655) (by decide +kernel)) rfl
theorem mw_657 : (.methodLink R_Law 99 y_Mo_part : Cond) ∈ tb := tb_t (List.mem_of_getElem? (i := 657) (by decide +kernel)) rfl
theorem mw_658 : (.instanceMethod y_Mo_part : Cond) ∈ tb := tb_t (List.mem_of_getElem? (i := 658) (by decide +kernel)) rfl
theorem mw_659 : (.selects R_Mo y_Mo_part y_Mo_part : Cond) ∈ tb := tb_t (List.mem_of_getElem? (i := 659) (by decide +kernel)) rfl
theorem mw_661 : (.methodLink R_Mo 85 y_Mo_growth : Cond) ∈ tb := tb_t (List.mem_of_getElem? (i := 661) (by decide +kernel)) rfl
theorem mw_663 : (.instanceMethod y_Mo_growth : Cond) ∈ tb := tb_t (List.mem_of_getElem? (i := 663) (by decide +kernel)) rfl
theorem mw_665 : (.methodLink R_Mo 81 y_Mo_rest : Cond) ∈ tb := tb_t (List.mem_of_getElem? (i := 665) (by decide +kernel)) rfl
theorem mw_667 : (.instanceMethod y_Mo_rest : Cond) ∈ tb := tb_t (List.mem_of_getElem? (i := 667) (by decide +kernel)) rfl
theorem mw_669 : (.methodLink R_Law 103 y_Mo_isAtMost : Cond) ∈ tb := tb_t (List.mem_of_getElem? (i := 669) (by decide +kernel)) rfl
theorem mw_670 : (.instanceMethod y_Mo_isAtMost : Cond) ∈ tb := tb_t (List.mem_of_getElem? (i := 670) (by decide +kernel)) rfl
theorem mw_671 : (.selects R_Mo y_Mo_isAtMost y_Mo_isAtMost : Cond) ∈ tb := tb_t (List.mem_of_getElem? (i := 671) (by decide +kernel)) rfl
theorem mw_673 : (.methodLink R_Mo 92 y_Mo_regionOf : Cond) ∈ tb := tb_t (List.mem_of_getElem? (i := 673) (by decide +kernel)) rfl
theorem mw_675 : (.instanceMethod y_Mo_regionOf : Cond) ∈ tb := tb_t (List.mem_of_getElem? (i := 675) (by decide +kernel)) rfl
theorem mw_677 : (.methodLink R_Mo 88 y_Mo_goesOn : Cond) ∈ tb := tb_t (List.mem_of_getElem? (i := 677) (by decide +kernel)) rfl
theorem mw_679 : (.instanceMethod y_Mo_goesOn : Cond) ∈ tb := tb_t (List.mem_of_getElem? (i := 679) (by decide +kernel)) rfl
theorem mw_681 : (.methodLink R_Law 106 y_Mo_isSame : Cond) ∈ tb := tb_t (List.mem_of_getElem? (i := 681) (by decide +kernel)) rfl
theorem mw_682 : (.instanceMethod y_Mo_isSame : Cond) ∈ tb := tb_t (List.mem_of_getElem? (i := 682) (by decide +kernel)) rfl
theorem mw_683 : (.selects R_Mo y_Mo_isSame y_Mo_isSame : Cond) ∈ tb := tb_t (List.mem_of_getElem? (i := 683) (by decide +kernel)) rfl
theorem mw_685 : (.methodLink R_Mo 96 y_Mo_isSameLevel : Cond) ∈ tb := tb_t (List.mem_of_getElem? (i := 685) (by decide +kernel)) rfl
theorem mw_687 : (.instanceMethod y_Mo_isSameLevel : Cond) ∈ tb := tb_t (List.mem_of_getElem? (i := 687) (by decide +kernel)) rfl
theorem mw_689 : (.methodLink R_Law 109 y_Mo_least : Cond) ∈ tb := tb_t (List.mem_of_getElem? (i := 689) (by decide +kernel)) rfl
theorem mw_690 : (.instanceMethod y_Mo_least : Cond) ∈ tb := tb_t (List.mem_of_getElem? (i := 690) (by decide +kernel)) rfl
theorem mw_691 : (.selects R_Mo y_Mo_least y_Mo_least : Cond) ∈ tb := tb_t (List.mem_of_getElem? (i := 691) (by decide +kernel)) rfl
theorem mw_693 : (.methodLink R_Law 112 y_Mo_above : Cond) ∈ tb := tb_t (List.mem_of_getElem? (i := 693) (by decide +kernel)) rfl
theorem mw_694 : (.instanceMethod y_Mo_above : Cond) ∈ tb := tb_t (List.mem_of_getElem? (i := 694) (by decide +kernel)) rfl
theorem mw_695 : (.selects R_Mo y_Mo_above y_Mo_above : Cond) ∈ tb := tb_t (List.mem_of_getElem? (i := 695) (by decide +kernel)) rfl
theorem mw_697 : (.constantLong R_Mo 100 (-1) : Cond) ∈ tb := tb_t (List.mem_of_getElem? (i := 697) (by decide +kernel)) rfl
theorem mw_698 : (.methodLink R_Law 115 y_Mo_unknown : Cond) ∈ tb := tb_t (List.mem_of_getElem? (i := 698) (by decide +kernel)) rfl
theorem mw_699 : (.instanceMethod y_Mo_unknown : Cond) ∈ tb := tb_t (List.mem_of_getElem? (i := 699) (by decide +kernel)) rfl
theorem mw_700 : (.selects R_Mo y_Mo_unknown y_Mo_unknown : Cond) ∈ tb := tb_t (List.mem_of_getElem? (i := 700) (by decide +kernel)) rfl
theorem mw_702 : (.methodLink R_Law 118 y_Mo_need : Cond) ∈ tb := tb_t (List.mem_of_getElem? (i := 702) (by decide +kernel)) rfl
theorem mw_703 : (.instanceMethod y_Mo_need : Cond) ∈ tb := tb_t (List.mem_of_getElem? (i := 703) (by decide +kernel)) rfl
theorem mw_704 : (.selects R_Mo y_Mo_need y_Mo_need : Cond) ∈ tb := tb_t (List.mem_of_getElem? (i := 704) (by decide +kernel)) rfl
theorem mw_706 : (.methodLink R_Mo 105 y_Mo_isSide : Cond) ∈ tb := tb_t (List.mem_of_getElem? (i := 706) (by decide +kernel)) rfl
theorem mw_708 : (.instanceMethod y_Mo_isSide : Cond) ∈ tb := tb_t (List.mem_of_getElem? (i := 708) (by decide +kernel)) rfl
theorem mw_710 : (.methodLink R_Law 123 y_Mo_isSolved : Cond) ∈ tb := tb_t (List.mem_of_getElem? (i := 710) (by decide +kernel)) rfl
theorem mw_711 : (.instanceMethod y_Mo_isSolved : Cond) ∈ tb := tb_t (List.mem_of_getElem? (i := 711) (by decide +kernel)) rfl
theorem mw_712 : (.selects R_Mo y_Mo_isSolved y_Mo_isSolved : Cond) ∈ tb := tb_t (List.mem_of_getElem? (i := 712) (by decide +kernel)) rfl
theorem mw_714 : (.methodLink R_Mo 115 y_Mo_solvesAll : Cond) ∈ tb := tb_t (List.mem_of_getElem? (i := 714) (by decide +kernel)) rfl
theorem mw_716 : (.instanceMethod y_Mo_solvesAll : Cond) ∈ tb := tb_t (List.mem_of_getElem? (i := 716) (by decide +kernel)) rfl
theorem mw_718 : (.methodLink R_Mo 111 y_Mo_solves : Cond) ∈ tb := tb_t (List.mem_of_getElem? (i := 718) (by decide +kernel)) rfl
theorem mw_720 : (.instanceMethod y_Mo_solves : Cond) ∈ tb := tb_t (List.mem_of_getElem? (i := 720) (by decide +kernel)) rfl
theorem mw_722 : (.methodLink R_Law 127 y_Mo_solution : Cond) ∈ tb := tb_t (List.mem_of_getElem? (i := 722) (by decide +kernel)) rfl
theorem mw_723 : (.instanceMethod y_Mo_solution : Cond) ∈ tb := tb_t (List.mem_of_getElem? (i := 723) (by decide +kernel)) rfl
theorem mw_724 : (.selects R_Mo y_Mo_solution y_Mo_solution : Cond) ∈ tb := tb_t (List.mem_of_getElem? (i := 724) (by decide +kernel)) rfl
theorem mw_726 : (.methodLink R_Law 132 y_Mo_isClash : Cond) ∈ tb := tb_t (List.mem_of_getElem? (i := 726) (by decide +kernel)) rfl
theorem mw_727 : (.instanceMethod y_Mo_isClash : Cond) ∈ tb := tb_t (List.mem_of_getElem? (i := 727) (by decide +kernel)) rfl
theorem mw_728 : (.selects R_Mo y_Mo_isClash y_Mo_isClash : Cond) ∈ tb := tb_t (List.mem_of_getElem? (i := 728) (by decide +kernel)) rfl
theorem mw_730 : (.methodLink R_Law 136 y_Mo_undo : Cond) ∈ tb := tb_t (List.mem_of_getElem? (i := 730) (by decide +kernel)) rfl
theorem mw_731 : (.instanceMethod y_Mo_undo : Cond) ∈ tb := tb_t (List.mem_of_getElem? (i := 731) (by decide +kernel)) rfl
theorem mw_732 : (.selects R_Mo y_Mo_undo y_Mo_undo : Cond) ∈ tb := tb_t (List.mem_of_getElem? (i := 732) (by decide +kernel)) rfl
theorem mw_734 : (.methodLink R_Law 140 y_Mo_about : Cond) ∈ tb := tb_t (List.mem_of_getElem? (i := 734) (by decide +kernel)) rfl
theorem mw_735 : (.instanceMethod y_Mo_about : Cond) ∈ tb := tb_t (List.mem_of_getElem? (i := 735) (by decide +kernel)) rfl
theorem mw_736 : (.selects R_Mo y_Mo_about y_Mo_about : Cond) ∈ tb := tb_t (List.mem_of_getElem? (i := 736) (by decide +kernel)) rfl
theorem mw_738 : (.constantLong R_Law 90 4294967295 : Cond) ∈ tb := tb_t (List.mem_of_getElem? (i := 738) (by decide +kernel)) rfl
theorem mw_739 : (.sameMethod "java/lang/Throwable" "java/lang/Throwable" "fillInStackTrace" "(I)Ljava/lang/Throwable;" : Cond) ∈ tb := tb_t (List.mem_of_getElem? (i := 739) (by decide +kernel)) rfl
set_option maxRecDepth 100000 in
theorem mc_max : Cond.code Lib.Math.max.name Lib.Math.max.code 2 (some .int) ∈ tb := tb_t (List.mem_of_getElem? (i := 146) (by rfl)) rfl
theorem mp_0 : (.selects R_Lv y_Lv_valueOf y_Lv_valueOf : Cond) ∈ tb := tb_s (by decide +kernel) rfl
theorem mp_1 : (.selects R_Nd y_Nd_keepAll y_Nd_keepAll : Cond) ∈ tb := tb_s (by decide +kernel) rfl
theorem mp_2 : (.selects R_Nd y_Nd_canKeptBeSolved y_Nd_canKeptBeSolved : Cond) ∈ tb := tb_s (by decide +kernel) rfl
theorem mp_3 : (.selects R_Nd y_Nd_raiseNumbers y_Nd_raiseNumbers : Cond) ∈ tb := tb_s (by decide +kernel) rfl
theorem mp_4 : (.selects R_Nd y_Nd_isUnknown y_Nd_isUnknown : Cond) ∈ tb := tb_s (by decide +kernel) rfl
theorem mp_5 : (.selects R_Nd y_Nd_keepClashOnly y_Nd_keepClashOnly : Cond) ∈ tb := tb_s (by decide +kernel) rfl
theorem mp_6 : (.selects R_Nd y_Nd_forget y_Nd_forget : Cond) ∈ tb := tb_s (by decide +kernel) rfl
theorem mp_7 : (.selects R_Lv y_Lv_find y_Lv_find : Cond) ∈ tb := tb_s (by decide +kernel) rfl
theorem mp_8 : (.selects R_Lv y_Lv_checkNew y_Lv_checkNew : Cond) ∈ tb := tb_s (by decide +kernel) rfl
theorem mp_9 : (.selects "java/lang/Throwable" ⟨"java/lang/Throwable", "fillInStackTrace", "(I)Ljava/lang/Throwable;"⟩ ⟨"java/lang/Throwable", "fillInStackTrace", "(I)Ljava/lang/Throwable;"⟩ : Cond) ∈ tb := tb_s (by decide +kernel) rfl
theorem mp_10 : (.selects R_Lv y_Lv_nextsOf y_Lv_nextsOf : Cond) ∈ tb := tb_s (by decide +kernel) rfl
theorem mp_11 : (.selects R_Lv y_Lv_usesOf y_Lv_usesOf : Cond) ∈ tb := tb_s (by decide +kernel) rfl
theorem mp_12 : (.selects R_Lv y_Lv_partsOf y_Lv_partsOf : Cond) ∈ tb := tb_s (by decide +kernel) rfl
theorem mp_13 : (.selects R_LR y_LR_checkLevel y_LR_checkLevel : Cond) ∈ tb := tb_s (by decide +kernel) rfl
theorem mp_14 : (.selects R_Rp y_Rp_resultAhead y_Rp_resultAhead : Cond) ∈ tb := tb_s (by decide +kernel) rfl
theorem mp_15 : (.selects R_Rp y_Rp_missingPart y_Rp_missingPart : Cond) ∈ tb := tb_s (by decide +kernel) rfl
theorem mp_16 : (.selects R_Rp y_Rp_remade y_Rp_remade : Cond) ∈ tb := tb_s (by decide +kernel) rfl
theorem mp_17 : (.selects R_Mo y_Mo_made y_Mo_made : Cond) ∈ tb := tb_s (by decide +kernel) rfl
theorem mp_18 : (.selects R_Mo y_Mo_make y_Mo_make : Cond) ∈ tb := tb_s (by decide +kernel) rfl
theorem mp_19 : (.selects R_Mo y_Mo_refuses y_Mo_refuses : Cond) ∈ tb := tb_s (by decide +kernel) rfl
theorem mp_20 : (.selects R_Mo y_Mo_isLevel y_Mo_isLevel : Cond) ∈ tb := tb_s (by decide +kernel) rfl
theorem mp_21 : (.selects R_Mo y_Mo_changed y_Mo_changed : Cond) ∈ tb := tb_s (by decide +kernel) rfl
theorem mp_22 : (.selects R_Mo y_Mo_reckon y_Mo_reckon : Cond) ∈ tb := tb_s (by decide +kernel) rfl
theorem mp_23 : (.selects R_Mo y_Mo_growth y_Mo_growth : Cond) ∈ tb := tb_s (by decide +kernel) rfl
theorem mp_24 : (.selects R_Mo y_Mo_rest y_Mo_rest : Cond) ∈ tb := tb_s (by decide +kernel) rfl
theorem mp_25 : (.selects R_Mo y_Mo_regionOf y_Mo_regionOf : Cond) ∈ tb := tb_s (by decide +kernel) rfl
theorem mp_26 : (.selects R_Mo y_Mo_goesOn y_Mo_goesOn : Cond) ∈ tb := tb_s (by decide +kernel) rfl
theorem mp_27 : (.selects R_Mo y_Mo_isSameLevel y_Mo_isSameLevel : Cond) ∈ tb := tb_s (by decide +kernel) rfl
theorem mp_28 : (.selects R_Mo y_Mo_isSide y_Mo_isSide : Cond) ∈ tb := tb_s (by decide +kernel) rfl
theorem mp_29 : (.selects R_Mo y_Mo_solvesAll y_Mo_solvesAll : Cond) ∈ tb := tb_s (by decide +kernel) rfl
theorem mp_30 : (.selects R_Mo y_Mo_solves y_Mo_solves : Cond) ∈ tb := tb_s (by decide +kernel) rfl
end
section
theorem d_Lv_init_0 : decode b_Lv_init 0 = .ok (.aload_n 0, 1) := by decide +kernel
theorem d_Lv_init_1 : decode b_Lv_init 1 = .ok (.invokespecial 3, 3) := by decide +kernel
theorem d_Lv_init_4 : decode b_Lv_init 4 = .ok (.aload_n 0, 1) := by decide +kernel
theorem d_Lv_init_5 : decode b_Lv_init 5 = .ok (.bipush 120, 2) := by decide +kernel
theorem d_Lv_init_7 : decode b_Lv_init 7 = .ok (.newarray .int, 2) := by decide +kernel
theorem d_Lv_init_9 : decode b_Lv_init 9 = .ok (.putfield 9, 3) := by decide +kernel
theorem d_Lv_init_12 : decode b_Lv_init 12 = .ok (.aload_n 0, 1) := by decide +kernel
theorem d_Lv_init_13 : decode b_Lv_init 13 = .ok (.bipush 120, 2) := by decide +kernel
theorem d_Lv_init_15 : decode b_Lv_init 15 = .ok (.newarray .int, 2) := by decide +kernel
theorem d_Lv_init_17 : decode b_Lv_init 17 = .ok (.putfield 15, 3) := by decide +kernel
theorem d_Lv_init_20 : decode b_Lv_init 20 = .ok (.aload_n 0, 1) := by decide +kernel
theorem d_Lv_init_21 : decode b_Lv_init 21 = .ok (.bipush 120, 2) := by decide +kernel
theorem d_Lv_init_23 : decode b_Lv_init 23 = .ok (.newarray .int, 2) := by decide +kernel
theorem d_Lv_init_25 : decode b_Lv_init 25 = .ok (.putfield 18, 3) := by decide +kernel
theorem d_Lv_init_28 : decode b_Lv_init 28 = .ok (.aload_n 0, 1) := by decide +kernel
theorem d_Lv_init_29 : decode b_Lv_init 29 = .ok (.bipush 120, 2) := by decide +kernel
theorem d_Lv_init_31 : decode b_Lv_init 31 = .ok (.newarray .int, 2) := by decide +kernel
theorem d_Lv_init_33 : decode b_Lv_init 33 = .ok (.putfield 21, 3) := by decide +kernel
theorem d_Lv_init_36 : decode b_Lv_init 36 = .ok (.aload_n 0, 1) := by decide +kernel
theorem d_Lv_init_37 : decode b_Lv_init 37 = .ok (.bipush 120, 2) := by decide +kernel
theorem d_Lv_init_39 : decode b_Lv_init 39 = .ok (.newarray .int, 2) := by decide +kernel
theorem d_Lv_init_41 : decode b_Lv_init 41 = .ok (.putfield 24, 3) := by decide +kernel
theorem d_Lv_init_44 : decode b_Lv_init 44 = .ok (.aload_n 0, 1) := by decide +kernel
theorem d_Lv_init_45 : decode b_Lv_init 45 = .ok (.bipush 120, 2) := by decide +kernel
theorem d_Lv_init_47 : decode b_Lv_init 47 = .ok (.newarray .int, 2) := by decide +kernel
theorem d_Lv_init_49 : decode b_Lv_init 49 = .ok (.putfield 27, 3) := by decide +kernel
theorem d_Lv_init_52 : decode b_Lv_init 52 = .ok (.aload_n 0, 1) := by decide +kernel
theorem d_Lv_init_53 : decode b_Lv_init 53 = .ok (.sipush 3840, 3) := by decide +kernel
theorem d_Lv_init_56 : decode b_Lv_init 56 = .ok (.newarray .long, 2) := by decide +kernel
theorem d_Lv_init_58 : decode b_Lv_init 58 = .ok (.putfield 30, 3) := by decide +kernel
theorem d_Lv_init_61 : decode b_Lv_init 61 = .ok (.aload_n 0, 1) := by decide +kernel
theorem d_Lv_init_62 : decode b_Lv_init 62 = .ok (.iconst 0, 1) := by decide +kernel
theorem d_Lv_init_63 : decode b_Lv_init 63 = .ok (.putfield 34, 3) := by decide +kernel
theorem d_Lv_init_66 : decode b_Lv_init 66 = .ok (.return_, 1) := by decide +kernel
theorem d_Lv_has_0 : decode b_Lv_has 0 = .ok (.iload_n 1, 1) := by decide +kernel
theorem d_Lv_has_1 : decode b_Lv_has 1 = .ok (.ifCond .lt 15, 3) := by decide +kernel
theorem d_Lv_has_4 : decode b_Lv_has 4 = .ok (.iload_n 1, 1) := by decide +kernel
theorem d_Lv_has_5 : decode b_Lv_has 5 = .ok (.aload_n 0, 1) := by decide +kernel
theorem d_Lv_has_6 : decode b_Lv_has 6 = .ok (.getfield 34, 3) := by decide +kernel
theorem d_Lv_has_9 : decode b_Lv_has 9 = .ok (.if_icmp .ge 7, 3) := by decide +kernel
theorem d_Lv_has_12 : decode b_Lv_has 12 = .ok (.iconst 1, 1) := by decide +kernel
theorem d_Lv_has_13 : decode b_Lv_has 13 = .ok (.goto 4, 3) := by decide +kernel
theorem d_Lv_has_16 : decode b_Lv_has 16 = .ok (.iconst 0, 1) := by decide +kernel
theorem d_Lv_has_17 : decode b_Lv_has 17 = .ok (.ireturn, 1) := by decide +kernel
theorem d_Lv_detail_0 : decode b_Lv_detail 0 = .ok (.iload_n 2, 1) := by decide +kernel
theorem d_Lv_detail_1 : decode b_Lv_detail 1 = .ok (.tableswitch 48 0 2 #[27, 34, 41], 27) := by decide +kernel
theorem d_Lv_detail_28 : decode b_Lv_detail 28 = .ok (.aload_n 0, 1) := by decide +kernel
theorem d_Lv_detail_29 : decode b_Lv_detail 29 = .ok (.getfield 9, 3) := by decide +kernel
theorem d_Lv_detail_32 : decode b_Lv_detail 32 = .ok (.iload_n 1, 1) := by decide +kernel
theorem d_Lv_detail_33 : decode b_Lv_detail 33 = .ok (.iaload, 1) := by decide +kernel
theorem d_Lv_detail_34 : decode b_Lv_detail 34 = .ok (.ireturn, 1) := by decide +kernel
theorem d_Lv_detail_35 : decode b_Lv_detail 35 = .ok (.aload_n 0, 1) := by decide +kernel
theorem d_Lv_detail_36 : decode b_Lv_detail 36 = .ok (.getfield 15, 3) := by decide +kernel
theorem d_Lv_detail_39 : decode b_Lv_detail 39 = .ok (.iload_n 1, 1) := by decide +kernel
theorem d_Lv_detail_40 : decode b_Lv_detail 40 = .ok (.iaload, 1) := by decide +kernel
theorem d_Lv_detail_41 : decode b_Lv_detail 41 = .ok (.ireturn, 1) := by decide +kernel
theorem d_Lv_detail_42 : decode b_Lv_detail 42 = .ok (.aload_n 0, 1) := by decide +kernel
theorem d_Lv_detail_43 : decode b_Lv_detail 43 = .ok (.getfield 18, 3) := by decide +kernel
theorem d_Lv_detail_46 : decode b_Lv_detail 46 = .ok (.iload_n 1, 1) := by decide +kernel
theorem d_Lv_detail_47 : decode b_Lv_detail 47 = .ok (.iaload, 1) := by decide +kernel
theorem d_Lv_detail_48 : decode b_Lv_detail 48 = .ok (.ireturn, 1) := by decide +kernel
theorem d_Lv_detail_49 : decode b_Lv_detail 49 = .ok (.iconst (-1), 1) := by decide +kernel
theorem d_Lv_detail_50 : decode b_Lv_detail 50 = .ok (.ireturn, 1) := by decide +kernel
theorem d_Lv_valueFor_0 : decode b_Lv_valueFor 0 = .ok (.iconst 0, 1) := by decide +kernel
theorem d_Lv_valueFor_1 : decode b_Lv_valueFor 1 = .ok (.istore 4, 2) := by decide +kernel
theorem d_Lv_valueFor_3 : decode b_Lv_valueFor 3 = .ok (.iload 4, 2) := by decide +kernel
theorem d_Lv_valueFor_5 : decode b_Lv_valueFor 5 = .ok (.iload_n 1, 1) := by decide +kernel
theorem d_Lv_valueFor_6 : decode b_Lv_valueFor 6 = .ok (.if_icmp .gt 23, 3) := by decide +kernel
theorem d_Lv_valueFor_9 : decode b_Lv_valueFor 9 = .ok (.aload_n 0, 1) := by decide +kernel
theorem d_Lv_valueFor_10 : decode b_Lv_valueFor 10 = .ok (.getfield 27, 3) := by decide +kernel
theorem d_Lv_valueFor_13 : decode b_Lv_valueFor 13 = .ok (.iload 4, 2) := by decide +kernel
theorem d_Lv_valueFor_15 : decode b_Lv_valueFor 15 = .ok (.aload_n 0, 1) := by decide +kernel
theorem d_Lv_valueFor_16 : decode b_Lv_valueFor 16 = .ok (.iload 4, 2) := by decide +kernel
theorem d_Lv_valueFor_18 : decode b_Lv_valueFor 18 = .ok (.lload_n 2, 1) := by decide +kernel
theorem d_Lv_valueFor_19 : decode b_Lv_valueFor 19 = .ok (.invokevirtual 95, 3) := by decide +kernel
theorem d_Lv_valueFor_22 : decode b_Lv_valueFor 22 = .ok (.iastore, 1) := by decide +kernel
theorem d_Lv_valueFor_23 : decode b_Lv_valueFor 23 = .ok (.iinc 4 1, 3) := by decide +kernel
theorem d_Lv_valueFor_26 : decode b_Lv_valueFor 26 = .ok (.goto (-23), 3) := by decide +kernel
theorem d_Lv_valueFor_29 : decode b_Lv_valueFor 29 = .ok (.aload_n 0, 1) := by decide +kernel
theorem d_Lv_valueFor_30 : decode b_Lv_valueFor 30 = .ok (.getfield 27, 3) := by decide +kernel
theorem d_Lv_valueFor_33 : decode b_Lv_valueFor 33 = .ok (.iload_n 1, 1) := by decide +kernel
theorem d_Lv_valueFor_34 : decode b_Lv_valueFor 34 = .ok (.iaload, 1) := by decide +kernel
theorem d_Lv_valueFor_35 : decode b_Lv_valueFor 35 = .ok (.ireturn, 1) := by decide +kernel
theorem d_Lv_valueOf_0 : decode b_Lv_valueOf 0 = .ok (.aload_n 0, 1) := by decide +kernel
theorem d_Lv_valueOf_1 : decode b_Lv_valueOf 1 = .ok (.getfield 9, 3) := by decide +kernel
theorem d_Lv_valueOf_4 : decode b_Lv_valueOf 4 = .ok (.iload_n 1, 1) := by decide +kernel
theorem d_Lv_valueOf_5 : decode b_Lv_valueOf 5 = .ok (.iaload, 1) := by decide +kernel
theorem d_Lv_valueOf_6 : decode b_Lv_valueOf 6 = .ok (.tableswitch 126 1 4 #[30, 47, 61, 87], 30) := by decide +kernel
theorem d_Lv_valueOf_36 : decode b_Lv_valueOf 36 = .ok (.lload_n 2, 1) := by decide +kernel
theorem d_Lv_valueOf_37 : decode b_Lv_valueOf 37 = .ok (.aload_n 0, 1) := by decide +kernel
theorem d_Lv_valueOf_38 : decode b_Lv_valueOf 38 = .ok (.getfield 15, 3) := by decide +kernel
theorem d_Lv_valueOf_41 : decode b_Lv_valueOf 41 = .ok (.iload_n 1, 1) := by decide +kernel
theorem d_Lv_valueOf_42 : decode b_Lv_valueOf 42 = .ok (.iaload, 1) := by decide +kernel
theorem d_Lv_valueOf_43 : decode b_Lv_valueOf 43 = .ok (.bipush 12, 2) := by decide +kernel
theorem d_Lv_valueOf_45 : decode b_Lv_valueOf 45 = .ok (.imul, 1) := by decide +kernel
theorem d_Lv_valueOf_46 : decode b_Lv_valueOf 46 = .ok (.lushr, 1) := by decide +kernel
theorem d_Lv_valueOf_47 : decode b_Lv_valueOf 47 = .ok (.l2i, 1) := by decide +kernel
theorem d_Lv_valueOf_48 : decode b_Lv_valueOf 48 = .ok (.sipush 4095, 3) := by decide +kernel
theorem d_Lv_valueOf_51 : decode b_Lv_valueOf 51 = .ok (.iand, 1) := by decide +kernel
theorem d_Lv_valueOf_52 : decode b_Lv_valueOf 52 = .ok (.ireturn, 1) := by decide +kernel
theorem d_Lv_valueOf_53 : decode b_Lv_valueOf 53 = .ok (.aload_n 0, 1) := by decide +kernel
theorem d_Lv_valueOf_54 : decode b_Lv_valueOf 54 = .ok (.getfield 27, 3) := by decide +kernel
theorem d_Lv_valueOf_57 : decode b_Lv_valueOf 57 = .ok (.aload_n 0, 1) := by decide +kernel
theorem d_Lv_valueOf_58 : decode b_Lv_valueOf 58 = .ok (.getfield 15, 3) := by decide +kernel
theorem d_Lv_valueOf_61 : decode b_Lv_valueOf 61 = .ok (.iload_n 1, 1) := by decide +kernel
theorem d_Lv_valueOf_62 : decode b_Lv_valueOf 62 = .ok (.iaload, 1) := by decide +kernel
theorem d_Lv_valueOf_63 : decode b_Lv_valueOf 63 = .ok (.iaload, 1) := by decide +kernel
theorem d_Lv_valueOf_64 : decode b_Lv_valueOf 64 = .ok (.iconst 1, 1) := by decide +kernel
theorem d_Lv_valueOf_65 : decode b_Lv_valueOf 65 = .ok (.iadd, 1) := by decide +kernel
theorem d_Lv_valueOf_66 : decode b_Lv_valueOf 66 = .ok (.ireturn, 1) := by decide +kernel
theorem d_Lv_valueOf_67 : decode b_Lv_valueOf 67 = .ok (.aload_n 0, 1) := by decide +kernel
theorem d_Lv_valueOf_68 : decode b_Lv_valueOf 68 = .ok (.getfield 27, 3) := by decide +kernel
theorem d_Lv_valueOf_71 : decode b_Lv_valueOf 71 = .ok (.aload_n 0, 1) := by decide +kernel
theorem d_Lv_valueOf_72 : decode b_Lv_valueOf 72 = .ok (.getfield 15, 3) := by decide +kernel
theorem d_Lv_valueOf_75 : decode b_Lv_valueOf 75 = .ok (.iload_n 1, 1) := by decide +kernel
theorem d_Lv_valueOf_76 : decode b_Lv_valueOf 76 = .ok (.iaload, 1) := by decide +kernel
theorem d_Lv_valueOf_77 : decode b_Lv_valueOf 77 = .ok (.iaload, 1) := by decide +kernel
theorem d_Lv_valueOf_78 : decode b_Lv_valueOf 78 = .ok (.aload_n 0, 1) := by decide +kernel
theorem d_Lv_valueOf_79 : decode b_Lv_valueOf 79 = .ok (.getfield 27, 3) := by decide +kernel
theorem d_Lv_valueOf_82 : decode b_Lv_valueOf 82 = .ok (.aload_n 0, 1) := by decide +kernel
theorem d_Lv_valueOf_83 : decode b_Lv_valueOf 83 = .ok (.getfield 18, 3) := by decide +kernel
theorem d_Lv_valueOf_86 : decode b_Lv_valueOf 86 = .ok (.iload_n 1, 1) := by decide +kernel
theorem d_Lv_valueOf_87 : decode b_Lv_valueOf 87 = .ok (.iaload, 1) := by decide +kernel
theorem d_Lv_valueOf_88 : decode b_Lv_valueOf 88 = .ok (.iaload, 1) := by decide +kernel
theorem d_Lv_valueOf_89 : decode b_Lv_valueOf 89 = .ok (.invokestatic 69, 3) := by decide +kernel
theorem d_Lv_valueOf_92 : decode b_Lv_valueOf 92 = .ok (.ireturn, 1) := by decide +kernel
theorem d_Lv_valueOf_93 : decode b_Lv_valueOf 93 = .ok (.aload_n 0, 1) := by decide +kernel
theorem d_Lv_valueOf_94 : decode b_Lv_valueOf 94 = .ok (.getfield 27, 3) := by decide +kernel
theorem d_Lv_valueOf_97 : decode b_Lv_valueOf 97 = .ok (.aload_n 0, 1) := by decide +kernel
theorem d_Lv_valueOf_98 : decode b_Lv_valueOf 98 = .ok (.getfield 18, 3) := by decide +kernel
theorem d_Lv_valueOf_101 : decode b_Lv_valueOf 101 = .ok (.iload_n 1, 1) := by decide +kernel
theorem d_Lv_valueOf_102 : decode b_Lv_valueOf 102 = .ok (.iaload, 1) := by decide +kernel
theorem d_Lv_valueOf_103 : decode b_Lv_valueOf 103 = .ok (.iaload, 1) := by decide +kernel
theorem d_Lv_valueOf_104 : decode b_Lv_valueOf 104 = .ok (.istore 4, 2) := by decide +kernel
theorem d_Lv_valueOf_106 : decode b_Lv_valueOf 106 = .ok (.iload 4, 2) := by decide +kernel
theorem d_Lv_valueOf_108 : decode b_Lv_valueOf 108 = .ok (.ifCond .ne 7, 3) := by decide +kernel
theorem d_Lv_valueOf_111 : decode b_Lv_valueOf 111 = .ok (.iconst 0, 1) := by decide +kernel
theorem d_Lv_valueOf_112 : decode b_Lv_valueOf 112 = .ok (.goto 19, 3) := by decide +kernel
theorem d_Lv_valueOf_115 : decode b_Lv_valueOf 115 = .ok (.aload_n 0, 1) := by decide +kernel
theorem d_Lv_valueOf_116 : decode b_Lv_valueOf 116 = .ok (.getfield 27, 3) := by decide +kernel
theorem d_Lv_valueOf_119 : decode b_Lv_valueOf 119 = .ok (.aload_n 0, 1) := by decide +kernel
theorem d_Lv_valueOf_120 : decode b_Lv_valueOf 120 = .ok (.getfield 15, 3) := by decide +kernel
theorem d_Lv_valueOf_123 : decode b_Lv_valueOf 123 = .ok (.iload_n 1, 1) := by decide +kernel
theorem d_Lv_valueOf_124 : decode b_Lv_valueOf 124 = .ok (.iaload, 1) := by decide +kernel
theorem d_Lv_valueOf_125 : decode b_Lv_valueOf 125 = .ok (.iaload, 1) := by decide +kernel
theorem d_Lv_valueOf_126 : decode b_Lv_valueOf 126 = .ok (.iload 4, 2) := by decide +kernel
theorem d_Lv_valueOf_128 : decode b_Lv_valueOf 128 = .ok (.invokestatic 69, 3) := by decide +kernel
theorem d_Lv_valueOf_131 : decode b_Lv_valueOf 131 = .ok (.ireturn, 1) := by decide +kernel
theorem d_Lv_valueOf_132 : decode b_Lv_valueOf 132 = .ok (.iconst 0, 1) := by decide +kernel
theorem d_Lv_valueOf_133 : decode b_Lv_valueOf 133 = .ok (.ireturn, 1) := by decide +kernel
theorem d_Lv_size_0 : decode b_Lv_size 0 = .ok (.aload_n 0, 1) := by decide +kernel
theorem d_Lv_size_1 : decode b_Lv_size 1 = .ok (.getfield 34, 3) := by decide +kernel
theorem d_Lv_size_4 : decode b_Lv_size 4 = .ok (.ireturn, 1) := by decide +kernel
theorem d_Lv_made_0 : decode b_Lv_made 0 = .ok (.aload_n 0, 1) := by decide +kernel
theorem d_Lv_made_1 : decode b_Lv_made 1 = .ok (.iload_n 1, 1) := by decide +kernel
theorem d_Lv_made_2 : decode b_Lv_made 2 = .ok (.iload_n 2, 1) := by decide +kernel
theorem d_Lv_made_3 : decode b_Lv_made 3 = .ok (.iload_n 3, 1) := by decide +kernel
theorem d_Lv_made_4 : decode b_Lv_made 4 = .ok (.invokevirtual 38, 3) := by decide +kernel
theorem d_Lv_made_7 : decode b_Lv_made 7 = .ok (.istore 4, 2) := by decide +kernel
theorem d_Lv_made_9 : decode b_Lv_made 9 = .ok (.iload 4, 2) := by decide +kernel
theorem d_Lv_made_11 : decode b_Lv_made 11 = .ok (.iconst (-1), 1) := by decide +kernel
theorem d_Lv_made_12 : decode b_Lv_made 12 = .ok (.if_icmp .eq 6, 3) := by decide +kernel
theorem d_Lv_made_15 : decode b_Lv_made 15 = .ok (.iload 4, 2) := by decide +kernel
theorem d_Lv_made_17 : decode b_Lv_made 17 = .ok (.ireturn, 1) := by decide +kernel
theorem d_Lv_made_18 : decode b_Lv_made 18 = .ok (.aload_n 0, 1) := by decide +kernel
theorem d_Lv_made_19 : decode b_Lv_made 19 = .ok (.iload_n 1, 1) := by decide +kernel
theorem d_Lv_made_20 : decode b_Lv_made 20 = .ok (.iload_n 2, 1) := by decide +kernel
theorem d_Lv_made_21 : decode b_Lv_made 21 = .ok (.invokevirtual 42, 3) := by decide +kernel
theorem d_Lv_made_24 : decode b_Lv_made 24 = .ok (.aload_n 0, 1) := by decide +kernel
theorem d_Lv_made_25 : decode b_Lv_made 25 = .ok (.getfield 34, 3) := by decide +kernel
theorem d_Lv_made_28 : decode b_Lv_made 28 = .ok (.istore 5, 2) := by decide +kernel
theorem d_Lv_made_30 : decode b_Lv_made 30 = .ok (.aload_n 0, 1) := by decide +kernel
theorem d_Lv_made_31 : decode b_Lv_made 31 = .ok (.getfield 9, 3) := by decide +kernel
theorem d_Lv_made_34 : decode b_Lv_made 34 = .ok (.iload 5, 2) := by decide +kernel
theorem d_Lv_made_36 : decode b_Lv_made 36 = .ok (.iload_n 1, 1) := by decide +kernel
theorem d_Lv_made_37 : decode b_Lv_made 37 = .ok (.iastore, 1) := by decide +kernel
theorem d_Lv_made_38 : decode b_Lv_made 38 = .ok (.aload_n 0, 1) := by decide +kernel
theorem d_Lv_made_39 : decode b_Lv_made 39 = .ok (.getfield 15, 3) := by decide +kernel
theorem d_Lv_made_42 : decode b_Lv_made 42 = .ok (.iload 5, 2) := by decide +kernel
theorem d_Lv_made_44 : decode b_Lv_made 44 = .ok (.iload_n 2, 1) := by decide +kernel
theorem d_Lv_made_45 : decode b_Lv_made 45 = .ok (.iastore, 1) := by decide +kernel
theorem d_Lv_made_46 : decode b_Lv_made 46 = .ok (.aload_n 0, 1) := by decide +kernel
theorem d_Lv_made_47 : decode b_Lv_made 47 = .ok (.getfield 18, 3) := by decide +kernel
theorem d_Lv_made_50 : decode b_Lv_made 50 = .ok (.iload 5, 2) := by decide +kernel
theorem d_Lv_made_52 : decode b_Lv_made 52 = .ok (.iload_n 3, 1) := by decide +kernel
theorem d_Lv_made_53 : decode b_Lv_made 53 = .ok (.iastore, 1) := by decide +kernel
theorem d_Lv_made_54 : decode b_Lv_made 54 = .ok (.aload_n 0, 1) := by decide +kernel
theorem d_Lv_made_55 : decode b_Lv_made 55 = .ok (.getfield 21, 3) := by decide +kernel
theorem d_Lv_made_58 : decode b_Lv_made 58 = .ok (.iload 5, 2) := by decide +kernel
theorem d_Lv_made_60 : decode b_Lv_made 60 = .ok (.aload_n 0, 1) := by decide +kernel
theorem d_Lv_made_61 : decode b_Lv_made 61 = .ok (.iload 5, 2) := by decide +kernel
theorem d_Lv_made_63 : decode b_Lv_made 63 = .ok (.invokevirtual 46, 3) := by decide +kernel
theorem d_Lv_made_66 : decode b_Lv_made 66 = .ok (.iastore, 1) := by decide +kernel
theorem d_Lv_made_67 : decode b_Lv_made 67 = .ok (.aload_n 0, 1) := by decide +kernel
theorem d_Lv_made_68 : decode b_Lv_made 68 = .ok (.getfield 24, 3) := by decide +kernel
theorem d_Lv_made_71 : decode b_Lv_made 71 = .ok (.iload 5, 2) := by decide +kernel
theorem d_Lv_made_73 : decode b_Lv_made 73 = .ok (.aload_n 0, 1) := by decide +kernel
theorem d_Lv_made_74 : decode b_Lv_made 74 = .ok (.iload 5, 2) := by decide +kernel
theorem d_Lv_made_76 : decode b_Lv_made 76 = .ok (.invokevirtual 50, 3) := by decide +kernel
theorem d_Lv_made_79 : decode b_Lv_made 79 = .ok (.iastore, 1) := by decide +kernel
theorem d_Lv_made_80 : decode b_Lv_made 80 = .ok (.iconst 0, 1) := by decide +kernel
theorem d_Lv_made_81 : decode b_Lv_made 81 = .ok (.istore 6, 2) := by decide +kernel
theorem d_Lv_made_83 : decode b_Lv_made 83 = .ok (.iload 6, 2) := by decide +kernel
theorem d_Lv_made_85 : decode b_Lv_made 85 = .ok (.bipush 32, 2) := by decide +kernel
theorem d_Lv_made_87 : decode b_Lv_made 87 = .ok (.if_icmp .ge 30, 3) := by decide +kernel
theorem d_Lv_made_90 : decode b_Lv_made 90 = .ok (.aload_n 0, 1) := by decide +kernel
theorem d_Lv_made_91 : decode b_Lv_made 91 = .ok (.getfield 30, 3) := by decide +kernel
theorem d_Lv_made_94 : decode b_Lv_made 94 = .ok (.iload 5, 2) := by decide +kernel
theorem d_Lv_made_96 : decode b_Lv_made 96 = .ok (.bipush 32, 2) := by decide +kernel
theorem d_Lv_made_98 : decode b_Lv_made 98 = .ok (.imul, 1) := by decide +kernel
theorem d_Lv_made_99 : decode b_Lv_made 99 = .ok (.iload 6, 2) := by decide +kernel
theorem d_Lv_made_101 : decode b_Lv_made 101 = .ok (.iadd, 1) := by decide +kernel
theorem d_Lv_made_102 : decode b_Lv_made 102 = .ok (.aload_n 0, 1) := by decide +kernel
theorem d_Lv_made_103 : decode b_Lv_made 103 = .ok (.iload 5, 2) := by decide +kernel
theorem d_Lv_made_105 : decode b_Lv_made 105 = .ok (.iload 6, 2) := by decide +kernel
theorem d_Lv_made_107 : decode b_Lv_made 107 = .ok (.invokevirtual 53, 3) := by decide +kernel
theorem d_Lv_made_110 : decode b_Lv_made 110 = .ok (.lastore, 1) := by decide +kernel
theorem d_Lv_made_111 : decode b_Lv_made 111 = .ok (.iinc 6 1, 3) := by decide +kernel
theorem d_Lv_made_114 : decode b_Lv_made 114 = .ok (.goto (-31), 3) := by decide +kernel
theorem d_Lv_made_117 : decode b_Lv_made 117 = .ok (.aload_n 0, 1) := by decide +kernel
theorem d_Lv_made_118 : decode b_Lv_made 118 = .ok (.dup, 1) := by decide +kernel
theorem d_Lv_made_119 : decode b_Lv_made 119 = .ok (.getfield 34, 3) := by decide +kernel
theorem d_Lv_made_122 : decode b_Lv_made 122 = .ok (.iconst 1, 1) := by decide +kernel
theorem d_Lv_made_123 : decode b_Lv_made 123 = .ok (.iadd, 1) := by decide +kernel
theorem d_Lv_made_124 : decode b_Lv_made 124 = .ok (.putfield 34, 3) := by decide +kernel
theorem d_Lv_made_127 : decode b_Lv_made 127 = .ok (.iload 5, 2) := by decide +kernel
theorem d_Lv_made_129 : decode b_Lv_made 129 = .ok (.ireturn, 1) := by decide +kernel
theorem d_Lv_find_0 : decode b_Lv_find 0 = .ok (.iconst 0, 1) := by decide +kernel
theorem d_Lv_find_1 : decode b_Lv_find 1 = .ok (.istore 4, 2) := by decide +kernel
theorem d_Lv_find_3 : decode b_Lv_find 3 = .ok (.iload 4, 2) := by decide +kernel
theorem d_Lv_find_5 : decode b_Lv_find 5 = .ok (.aload_n 0, 1) := by decide +kernel
theorem d_Lv_find_6 : decode b_Lv_find 6 = .ok (.getfield 34, 3) := by decide +kernel
theorem d_Lv_find_9 : decode b_Lv_find 9 = .ok (.if_icmp .ge 45, 3) := by decide +kernel
theorem d_Lv_find_12 : decode b_Lv_find 12 = .ok (.aload_n 0, 1) := by decide +kernel
theorem d_Lv_find_13 : decode b_Lv_find 13 = .ok (.getfield 9, 3) := by decide +kernel
theorem d_Lv_find_16 : decode b_Lv_find 16 = .ok (.iload 4, 2) := by decide +kernel
theorem d_Lv_find_18 : decode b_Lv_find 18 = .ok (.iaload, 1) := by decide +kernel
theorem d_Lv_find_19 : decode b_Lv_find 19 = .ok (.iload_n 1, 1) := by decide +kernel
theorem d_Lv_find_20 : decode b_Lv_find 20 = .ok (.if_icmp .ne 28, 3) := by decide +kernel
theorem d_Lv_find_23 : decode b_Lv_find 23 = .ok (.aload_n 0, 1) := by decide +kernel
theorem d_Lv_find_24 : decode b_Lv_find 24 = .ok (.getfield 15, 3) := by decide +kernel
theorem d_Lv_find_27 : decode b_Lv_find 27 = .ok (.iload 4, 2) := by decide +kernel
theorem d_Lv_find_29 : decode b_Lv_find 29 = .ok (.iaload, 1) := by decide +kernel
theorem d_Lv_find_30 : decode b_Lv_find 30 = .ok (.iload_n 2, 1) := by decide +kernel
theorem d_Lv_find_31 : decode b_Lv_find 31 = .ok (.if_icmp .ne 17, 3) := by decide +kernel
theorem d_Lv_find_34 : decode b_Lv_find 34 = .ok (.aload_n 0, 1) := by decide +kernel
theorem d_Lv_find_35 : decode b_Lv_find 35 = .ok (.getfield 18, 3) := by decide +kernel
theorem d_Lv_find_38 : decode b_Lv_find 38 = .ok (.iload 4, 2) := by decide +kernel
theorem d_Lv_find_40 : decode b_Lv_find 40 = .ok (.iaload, 1) := by decide +kernel
theorem d_Lv_find_41 : decode b_Lv_find 41 = .ok (.iload_n 3, 1) := by decide +kernel
theorem d_Lv_find_42 : decode b_Lv_find 42 = .ok (.if_icmp .ne 6, 3) := by decide +kernel
theorem d_Lv_find_45 : decode b_Lv_find 45 = .ok (.iload 4, 2) := by decide +kernel
theorem d_Lv_find_47 : decode b_Lv_find 47 = .ok (.ireturn, 1) := by decide +kernel
theorem d_Lv_find_48 : decode b_Lv_find 48 = .ok (.iinc 4 1, 3) := by decide +kernel
theorem d_Lv_find_51 : decode b_Lv_find 51 = .ok (.goto (-48), 3) := by decide +kernel
theorem d_Lv_find_54 : decode b_Lv_find 54 = .ok (.iconst (-1), 1) := by decide +kernel
theorem d_Lv_find_55 : decode b_Lv_find 55 = .ok (.ireturn, 1) := by decide +kernel
theorem d_Lv_checkNew_0 : decode b_Lv_checkNew 0 = .ok (.iload_n 1, 1) := by decide +kernel
theorem d_Lv_checkNew_1 : decode b_Lv_checkNew 1 = .ok (.iconst 2, 1) := by decide +kernel
theorem d_Lv_checkNew_2 : decode b_Lv_checkNew 2 = .ok (.if_icmp .ne 24, 3) := by decide +kernel
theorem d_Lv_checkNew_5 : decode b_Lv_checkNew 5 = .ok (.aload_n 0, 1) := by decide +kernel
theorem d_Lv_checkNew_6 : decode b_Lv_checkNew 6 = .ok (.getfield 21, 3) := by decide +kernel
theorem d_Lv_checkNew_9 : decode b_Lv_checkNew 9 = .ok (.iload_n 2, 1) := by decide +kernel
theorem d_Lv_checkNew_10 : decode b_Lv_checkNew 10 = .ok (.iaload, 1) := by decide +kernel
theorem d_Lv_checkNew_11 : decode b_Lv_checkNew 11 = .ok (.bipush 60, 2) := by decide +kernel
theorem d_Lv_checkNew_13 : decode b_Lv_checkNew 13 = .ok (.if_icmp .lt 13, 3) := by decide +kernel
theorem d_Lv_checkNew_16 : decode b_Lv_checkNew 16 = .ok (.new 57, 3) := by decide +kernel
theorem d_Lv_checkNew_19 : decode b_Lv_checkNew 19 = .ok (.dup, 1) := by decide +kernel
theorem d_Lv_checkNew_20 : decode b_Lv_checkNew 20 = .ok (.ldc 59, 2) := by decide +kernel
theorem d_Lv_checkNew_22 : decode b_Lv_checkNew 22 = .ok (.invokespecial 61, 3) := by decide +kernel
theorem d_Lv_checkNew_25 : decode b_Lv_checkNew 25 = .ok (.athrow, 1) := by decide +kernel
theorem d_Lv_checkNew_26 : decode b_Lv_checkNew 26 = .ok (.aload_n 0, 1) := by decide +kernel
theorem d_Lv_checkNew_27 : decode b_Lv_checkNew 27 = .ok (.getfield 34, 3) := by decide +kernel
theorem d_Lv_checkNew_30 : decode b_Lv_checkNew 30 = .ok (.bipush 120, 2) := by decide +kernel
theorem d_Lv_checkNew_32 : decode b_Lv_checkNew 32 = .ok (.if_icmp .lt 13, 3) := by decide +kernel
theorem d_Lv_checkNew_35 : decode b_Lv_checkNew 35 = .ok (.new 64, 3) := by decide +kernel
theorem d_Lv_checkNew_38 : decode b_Lv_checkNew 38 = .ok (.dup, 1) := by decide +kernel
theorem d_Lv_checkNew_39 : decode b_Lv_checkNew 39 = .ok (.ldc 66, 2) := by decide +kernel
theorem d_Lv_checkNew_41 : decode b_Lv_checkNew 41 = .ok (.invokespecial 68, 3) := by decide +kernel
theorem d_Lv_checkNew_44 : decode b_Lv_checkNew 44 = .ok (.athrow, 1) := by decide +kernel
theorem d_Lv_checkNew_45 : decode b_Lv_checkNew 45 = .ok (.return_, 1) := by decide +kernel
theorem d_Lv_nextsOf_0 : decode b_Lv_nextsOf 0 = .ok (.aload_n 0, 1) := by decide +kernel
theorem d_Lv_nextsOf_1 : decode b_Lv_nextsOf 1 = .ok (.getfield 9, 3) := by decide +kernel
theorem d_Lv_nextsOf_4 : decode b_Lv_nextsOf 4 = .ok (.iload_n 1, 1) := by decide +kernel
theorem d_Lv_nextsOf_5 : decode b_Lv_nextsOf 5 = .ok (.iaload, 1) := by decide +kernel
theorem d_Lv_nextsOf_6 : decode b_Lv_nextsOf 6 = .ok (.tableswitch 66 2 4 #[26, 40, 40], 26) := by decide +kernel
theorem d_Lv_nextsOf_32 : decode b_Lv_nextsOf 32 = .ok (.aload_n 0, 1) := by decide +kernel
theorem d_Lv_nextsOf_33 : decode b_Lv_nextsOf 33 = .ok (.getfield 21, 3) := by decide +kernel
theorem d_Lv_nextsOf_36 : decode b_Lv_nextsOf 36 = .ok (.aload_n 0, 1) := by decide +kernel
theorem d_Lv_nextsOf_37 : decode b_Lv_nextsOf 37 = .ok (.getfield 15, 3) := by decide +kernel
theorem d_Lv_nextsOf_40 : decode b_Lv_nextsOf 40 = .ok (.iload_n 1, 1) := by decide +kernel
theorem d_Lv_nextsOf_41 : decode b_Lv_nextsOf 41 = .ok (.iaload, 1) := by decide +kernel
theorem d_Lv_nextsOf_42 : decode b_Lv_nextsOf 42 = .ok (.iaload, 1) := by decide +kernel
theorem d_Lv_nextsOf_43 : decode b_Lv_nextsOf 43 = .ok (.iconst 1, 1) := by decide +kernel
theorem d_Lv_nextsOf_44 : decode b_Lv_nextsOf 44 = .ok (.iadd, 1) := by decide +kernel
theorem d_Lv_nextsOf_45 : decode b_Lv_nextsOf 45 = .ok (.ireturn, 1) := by decide +kernel
theorem d_Lv_nextsOf_46 : decode b_Lv_nextsOf 46 = .ok (.aload_n 0, 1) := by decide +kernel
theorem d_Lv_nextsOf_47 : decode b_Lv_nextsOf 47 = .ok (.getfield 21, 3) := by decide +kernel
theorem d_Lv_nextsOf_50 : decode b_Lv_nextsOf 50 = .ok (.aload_n 0, 1) := by decide +kernel
theorem d_Lv_nextsOf_51 : decode b_Lv_nextsOf 51 = .ok (.getfield 15, 3) := by decide +kernel
theorem d_Lv_nextsOf_54 : decode b_Lv_nextsOf 54 = .ok (.iload_n 1, 1) := by decide +kernel
theorem d_Lv_nextsOf_55 : decode b_Lv_nextsOf 55 = .ok (.iaload, 1) := by decide +kernel
theorem d_Lv_nextsOf_56 : decode b_Lv_nextsOf 56 = .ok (.iaload, 1) := by decide +kernel
theorem d_Lv_nextsOf_57 : decode b_Lv_nextsOf 57 = .ok (.aload_n 0, 1) := by decide +kernel
theorem d_Lv_nextsOf_58 : decode b_Lv_nextsOf 58 = .ok (.getfield 21, 3) := by decide +kernel
theorem d_Lv_nextsOf_61 : decode b_Lv_nextsOf 61 = .ok (.aload_n 0, 1) := by decide +kernel
theorem d_Lv_nextsOf_62 : decode b_Lv_nextsOf 62 = .ok (.getfield 18, 3) := by decide +kernel
theorem d_Lv_nextsOf_65 : decode b_Lv_nextsOf 65 = .ok (.iload_n 1, 1) := by decide +kernel
theorem d_Lv_nextsOf_66 : decode b_Lv_nextsOf 66 = .ok (.iaload, 1) := by decide +kernel
theorem d_Lv_nextsOf_67 : decode b_Lv_nextsOf 67 = .ok (.iaload, 1) := by decide +kernel
theorem d_Lv_nextsOf_68 : decode b_Lv_nextsOf 68 = .ok (.invokestatic 69, 3) := by decide +kernel
theorem d_Lv_nextsOf_71 : decode b_Lv_nextsOf 71 = .ok (.ireturn, 1) := by decide +kernel
theorem d_Lv_nextsOf_72 : decode b_Lv_nextsOf 72 = .ok (.iconst 0, 1) := by decide +kernel
theorem d_Lv_nextsOf_73 : decode b_Lv_nextsOf 73 = .ok (.ireturn, 1) := by decide +kernel
theorem d_Lv_usesOf_0 : decode b_Lv_usesOf 0 = .ok (.aload_n 0, 1) := by decide +kernel
theorem d_Lv_usesOf_1 : decode b_Lv_usesOf 1 = .ok (.getfield 9, 3) := by decide +kernel
theorem d_Lv_usesOf_4 : decode b_Lv_usesOf 4 = .ok (.iload_n 1, 1) := by decide +kernel
theorem d_Lv_usesOf_5 : decode b_Lv_usesOf 5 = .ok (.iaload, 1) := by decide +kernel
theorem d_Lv_usesOf_6 : decode b_Lv_usesOf 6 = .ok (.tableswitch 75 1 4 #[30, 39, 51, 51], 30) := by decide +kernel
theorem d_Lv_usesOf_36 : decode b_Lv_usesOf 36 = .ok (.iconst 1, 1) := by decide +kernel
theorem d_Lv_usesOf_37 : decode b_Lv_usesOf 37 = .ok (.aload_n 0, 1) := by decide +kernel
theorem d_Lv_usesOf_38 : decode b_Lv_usesOf 38 = .ok (.getfield 15, 3) := by decide +kernel
theorem d_Lv_usesOf_41 : decode b_Lv_usesOf 41 = .ok (.iload_n 1, 1) := by decide +kernel
theorem d_Lv_usesOf_42 : decode b_Lv_usesOf 42 = .ok (.iaload, 1) := by decide +kernel
theorem d_Lv_usesOf_43 : decode b_Lv_usesOf 43 = .ok (.ishl, 1) := by decide +kernel
theorem d_Lv_usesOf_44 : decode b_Lv_usesOf 44 = .ok (.ireturn, 1) := by decide +kernel
theorem d_Lv_usesOf_45 : decode b_Lv_usesOf 45 = .ok (.aload_n 0, 1) := by decide +kernel
theorem d_Lv_usesOf_46 : decode b_Lv_usesOf 46 = .ok (.getfield 24, 3) := by decide +kernel
theorem d_Lv_usesOf_49 : decode b_Lv_usesOf 49 = .ok (.aload_n 0, 1) := by decide +kernel
theorem d_Lv_usesOf_50 : decode b_Lv_usesOf 50 = .ok (.getfield 15, 3) := by decide +kernel
theorem d_Lv_usesOf_53 : decode b_Lv_usesOf 53 = .ok (.iload_n 1, 1) := by decide +kernel
theorem d_Lv_usesOf_54 : decode b_Lv_usesOf 54 = .ok (.iaload, 1) := by decide +kernel
theorem d_Lv_usesOf_55 : decode b_Lv_usesOf 55 = .ok (.iaload, 1) := by decide +kernel
theorem d_Lv_usesOf_56 : decode b_Lv_usesOf 56 = .ok (.ireturn, 1) := by decide +kernel
theorem d_Lv_usesOf_57 : decode b_Lv_usesOf 57 = .ok (.aload_n 0, 1) := by decide +kernel
theorem d_Lv_usesOf_58 : decode b_Lv_usesOf 58 = .ok (.getfield 24, 3) := by decide +kernel
theorem d_Lv_usesOf_61 : decode b_Lv_usesOf 61 = .ok (.aload_n 0, 1) := by decide +kernel
theorem d_Lv_usesOf_62 : decode b_Lv_usesOf 62 = .ok (.getfield 15, 3) := by decide +kernel
theorem d_Lv_usesOf_65 : decode b_Lv_usesOf 65 = .ok (.iload_n 1, 1) := by decide +kernel
theorem d_Lv_usesOf_66 : decode b_Lv_usesOf 66 = .ok (.iaload, 1) := by decide +kernel
theorem d_Lv_usesOf_67 : decode b_Lv_usesOf 67 = .ok (.iaload, 1) := by decide +kernel
theorem d_Lv_usesOf_68 : decode b_Lv_usesOf 68 = .ok (.aload_n 0, 1) := by decide +kernel
theorem d_Lv_usesOf_69 : decode b_Lv_usesOf 69 = .ok (.getfield 24, 3) := by decide +kernel
theorem d_Lv_usesOf_72 : decode b_Lv_usesOf 72 = .ok (.aload_n 0, 1) := by decide +kernel
theorem d_Lv_usesOf_73 : decode b_Lv_usesOf 73 = .ok (.getfield 18, 3) := by decide +kernel
theorem d_Lv_usesOf_76 : decode b_Lv_usesOf 76 = .ok (.iload_n 1, 1) := by decide +kernel
theorem d_Lv_usesOf_77 : decode b_Lv_usesOf 77 = .ok (.iaload, 1) := by decide +kernel
theorem d_Lv_usesOf_78 : decode b_Lv_usesOf 78 = .ok (.iaload, 1) := by decide +kernel
theorem d_Lv_usesOf_79 : decode b_Lv_usesOf 79 = .ok (.ior, 1) := by decide +kernel
theorem d_Lv_usesOf_80 : decode b_Lv_usesOf 80 = .ok (.ireturn, 1) := by decide +kernel
theorem d_Lv_usesOf_81 : decode b_Lv_usesOf 81 = .ok (.iconst 0, 1) := by decide +kernel
theorem d_Lv_usesOf_82 : decode b_Lv_usesOf 82 = .ok (.ireturn, 1) := by decide +kernel
theorem d_Lv_partsOf_0 : decode b_Lv_partsOf 0 = .ok (.aload_n 0, 1) := by decide +kernel
theorem d_Lv_partsOf_1 : decode b_Lv_partsOf 1 = .ok (.getfield 9, 3) := by decide +kernel
theorem d_Lv_partsOf_4 : decode b_Lv_partsOf 4 = .ok (.iload_n 1, 1) := by decide +kernel
theorem d_Lv_partsOf_5 : decode b_Lv_partsOf 5 = .ok (.iaload, 1) := by decide +kernel
theorem d_Lv_partsOf_6 : decode b_Lv_partsOf 6 = .ok (.tableswitch 138 1 4 #[30, 58, 73, 99], 30) := by decide +kernel
theorem d_Lv_partsOf_36 : decode b_Lv_partsOf 36 = .ok (.iload_n 2, 1) := by decide +kernel
theorem d_Lv_partsOf_37 : decode b_Lv_partsOf 37 = .ok (.aload_n 0, 1) := by decide +kernel
theorem d_Lv_partsOf_38 : decode b_Lv_partsOf 38 = .ok (.getfield 15, 3) := by decide +kernel
theorem d_Lv_partsOf_41 : decode b_Lv_partsOf 41 = .ok (.iload_n 1, 1) := by decide +kernel
theorem d_Lv_partsOf_42 : decode b_Lv_partsOf 42 = .ok (.iaload, 1) := by decide +kernel
theorem d_Lv_partsOf_43 : decode b_Lv_partsOf 43 = .ok (.ishr, 1) := by decide +kernel
theorem d_Lv_partsOf_44 : decode b_Lv_partsOf 44 = .ok (.iconst 1, 1) := by decide +kernel
theorem d_Lv_partsOf_45 : decode b_Lv_partsOf 45 = .ok (.iand, 1) := by decide +kernel
theorem d_Lv_partsOf_46 : decode b_Lv_partsOf 46 = .ok (.ifCond .eq 12, 3) := by decide +kernel
theorem d_Lv_partsOf_49 : decode b_Lv_partsOf 49 = .ok (.aload_n 0, 1) := by decide +kernel
theorem d_Lv_partsOf_50 : decode b_Lv_partsOf 50 = .ok (.getfield 15, 3) := by decide +kernel
theorem d_Lv_partsOf_53 : decode b_Lv_partsOf 53 = .ok (.iload_n 1, 1) := by decide +kernel
theorem d_Lv_partsOf_54 : decode b_Lv_partsOf 54 = .ok (.iaload, 1) := by decide +kernel
theorem d_Lv_partsOf_55 : decode b_Lv_partsOf 55 = .ok (.goto 4, 3) := by decide +kernel
theorem d_Lv_partsOf_58 : decode b_Lv_partsOf 58 = .ok (.iconst 5, 1) := by decide +kernel
theorem d_Lv_partsOf_59 : decode b_Lv_partsOf 59 = .ok (.iconst 0, 1) := by decide +kernel
theorem d_Lv_partsOf_60 : decode b_Lv_partsOf 60 = .ok (.invokestatic 77, 3) := by decide +kernel
theorem d_Lv_partsOf_63 : decode b_Lv_partsOf 63 = .ok (.lreturn, 1) := by decide +kernel
theorem d_Lv_partsOf_64 : decode b_Lv_partsOf 64 = .ok (.aload_n 0, 1) := by decide +kernel
theorem d_Lv_partsOf_65 : decode b_Lv_partsOf 65 = .ok (.aload_n 0, 1) := by decide +kernel
theorem d_Lv_partsOf_66 : decode b_Lv_partsOf 66 = .ok (.getfield 15, 3) := by decide +kernel
theorem d_Lv_partsOf_69 : decode b_Lv_partsOf 69 = .ok (.iload_n 1, 1) := by decide +kernel
theorem d_Lv_partsOf_70 : decode b_Lv_partsOf 70 = .ok (.iaload, 1) := by decide +kernel
theorem d_Lv_partsOf_71 : decode b_Lv_partsOf 71 = .ok (.iload_n 2, 1) := by decide +kernel
theorem d_Lv_partsOf_72 : decode b_Lv_partsOf 72 = .ok (.invokevirtual 80, 3) := by decide +kernel
theorem d_Lv_partsOf_75 : decode b_Lv_partsOf 75 = .ok (.invokestatic 83, 3) := by decide +kernel
theorem d_Lv_partsOf_78 : decode b_Lv_partsOf 78 = .ok (.lreturn, 1) := by decide +kernel
theorem d_Lv_partsOf_79 : decode b_Lv_partsOf 79 = .ok (.aload_n 0, 1) := by decide +kernel
theorem d_Lv_partsOf_80 : decode b_Lv_partsOf 80 = .ok (.aload_n 0, 1) := by decide +kernel
theorem d_Lv_partsOf_81 : decode b_Lv_partsOf 81 = .ok (.getfield 15, 3) := by decide +kernel
theorem d_Lv_partsOf_84 : decode b_Lv_partsOf 84 = .ok (.iload_n 1, 1) := by decide +kernel
theorem d_Lv_partsOf_85 : decode b_Lv_partsOf 85 = .ok (.iaload, 1) := by decide +kernel
theorem d_Lv_partsOf_86 : decode b_Lv_partsOf 86 = .ok (.iload_n 2, 1) := by decide +kernel
theorem d_Lv_partsOf_87 : decode b_Lv_partsOf 87 = .ok (.invokevirtual 80, 3) := by decide +kernel
theorem d_Lv_partsOf_90 : decode b_Lv_partsOf 90 = .ok (.aload_n 0, 1) := by decide +kernel
theorem d_Lv_partsOf_91 : decode b_Lv_partsOf 91 = .ok (.aload_n 0, 1) := by decide +kernel
theorem d_Lv_partsOf_92 : decode b_Lv_partsOf 92 = .ok (.getfield 18, 3) := by decide +kernel
theorem d_Lv_partsOf_95 : decode b_Lv_partsOf 95 = .ok (.iload_n 1, 1) := by decide +kernel
theorem d_Lv_partsOf_96 : decode b_Lv_partsOf 96 = .ok (.iaload, 1) := by decide +kernel
theorem d_Lv_partsOf_97 : decode b_Lv_partsOf 97 = .ok (.iload_n 2, 1) := by decide +kernel
theorem d_Lv_partsOf_98 : decode b_Lv_partsOf 98 = .ok (.invokevirtual 80, 3) := by decide +kernel
theorem d_Lv_partsOf_101 : decode b_Lv_partsOf 101 = .ok (.invokestatic 87, 3) := by decide +kernel
theorem d_Lv_partsOf_104 : decode b_Lv_partsOf 104 = .ok (.lreturn, 1) := by decide +kernel
theorem d_Lv_partsOf_105 : decode b_Lv_partsOf 105 = .ok (.aload_n 0, 1) := by decide +kernel
theorem d_Lv_partsOf_106 : decode b_Lv_partsOf 106 = .ok (.aload_n 0, 1) := by decide +kernel
theorem d_Lv_partsOf_107 : decode b_Lv_partsOf 107 = .ok (.getfield 18, 3) := by decide +kernel
theorem d_Lv_partsOf_110 : decode b_Lv_partsOf 110 = .ok (.iload_n 1, 1) := by decide +kernel
theorem d_Lv_partsOf_111 : decode b_Lv_partsOf 111 = .ok (.iaload, 1) := by decide +kernel
theorem d_Lv_partsOf_112 : decode b_Lv_partsOf 112 = .ok (.iload_n 2, 1) := by decide +kernel
theorem d_Lv_partsOf_113 : decode b_Lv_partsOf 113 = .ok (.invokevirtual 80, 3) := by decide +kernel
theorem d_Lv_partsOf_116 : decode b_Lv_partsOf 116 = .ok (.lstore_n 3, 1) := by decide +kernel
theorem d_Lv_partsOf_117 : decode b_Lv_partsOf 117 = .ok (.lload_n 3, 1) := by decide +kernel
theorem d_Lv_partsOf_118 : decode b_Lv_partsOf 118 = .ok (.invokestatic 91, 3) := by decide +kernel
theorem d_Lv_partsOf_121 : decode b_Lv_partsOf 121 = .ok (.ifCond .eq 7, 3) := by decide +kernel
theorem d_Lv_partsOf_124 : decode b_Lv_partsOf 124 = .ok (.lload_n 3, 1) := by decide +kernel
theorem d_Lv_partsOf_125 : decode b_Lv_partsOf 125 = .ok (.goto 18, 3) := by decide +kernel
theorem d_Lv_partsOf_128 : decode b_Lv_partsOf 128 = .ok (.aload_n 0, 1) := by decide +kernel
theorem d_Lv_partsOf_129 : decode b_Lv_partsOf 129 = .ok (.aload_n 0, 1) := by decide +kernel
theorem d_Lv_partsOf_130 : decode b_Lv_partsOf 130 = .ok (.getfield 15, 3) := by decide +kernel
theorem d_Lv_partsOf_133 : decode b_Lv_partsOf 133 = .ok (.iload_n 1, 1) := by decide +kernel
theorem d_Lv_partsOf_134 : decode b_Lv_partsOf 134 = .ok (.iaload, 1) := by decide +kernel
theorem d_Lv_partsOf_135 : decode b_Lv_partsOf 135 = .ok (.iload_n 2, 1) := by decide +kernel
theorem d_Lv_partsOf_136 : decode b_Lv_partsOf 136 = .ok (.invokevirtual 80, 3) := by decide +kernel
theorem d_Lv_partsOf_139 : decode b_Lv_partsOf 139 = .ok (.lload_n 3, 1) := by decide +kernel
theorem d_Lv_partsOf_140 : decode b_Lv_partsOf 140 = .ok (.invokestatic 87, 3) := by decide +kernel
theorem d_Lv_partsOf_143 : decode b_Lv_partsOf 143 = .ok (.lreturn, 1) := by decide +kernel
theorem d_Lv_partsOf_144 : decode b_Lv_partsOf 144 = .ok (.iconst 5, 1) := by decide +kernel
theorem d_Lv_partsOf_145 : decode b_Lv_partsOf 145 = .ok (.iconst 0, 1) := by decide +kernel
theorem d_Lv_partsOf_146 : decode b_Lv_partsOf 146 = .ok (.invokestatic 77, 3) := by decide +kernel
theorem d_Lv_partsOf_149 : decode b_Lv_partsOf 149 = .ok (.lreturn, 1) := by decide +kernel
theorem d_Pt_only_0 : decode b_Pt_only 0 = .ok (.iload_n 1, 1) := by decide +kernel
theorem d_Pt_only_1 : decode b_Pt_only 1 = .ok (.iconst 1, 1) := by decide +kernel
theorem d_Pt_only_2 : decode b_Pt_only 2 = .ok (.iadd, 1) := by decide +kernel
theorem d_Pt_only_3 : decode b_Pt_only 3 = .ok (.i2l, 1) := by decide +kernel
theorem d_Pt_only_4 : decode b_Pt_only 4 = .ok (.iload_n 0, 1) := by decide +kernel
theorem d_Pt_only_5 : decode b_Pt_only 5 = .ok (.bipush 8, 2) := by decide +kernel
theorem d_Pt_only_7 : decode b_Pt_only 7 = .ok (.imul, 1) := by decide +kernel
theorem d_Pt_only_8 : decode b_Pt_only 8 = .ok (.lshl, 1) := by decide +kernel
theorem d_Pt_only_9 : decode b_Pt_only 9 = .ok (.lreturn, 1) := by decide +kernel
theorem d_Lv_partsIn_0 : decode b_Lv_partsIn 0 = .ok (.aload_n 0, 1) := by decide +kernel
theorem d_Lv_partsIn_1 : decode b_Lv_partsIn 1 = .ok (.getfield 30, 3) := by decide +kernel
theorem d_Lv_partsIn_4 : decode b_Lv_partsIn 4 = .ok (.iload_n 1, 1) := by decide +kernel
theorem d_Lv_partsIn_5 : decode b_Lv_partsIn 5 = .ok (.bipush 32, 2) := by decide +kernel
theorem d_Lv_partsIn_7 : decode b_Lv_partsIn 7 = .ok (.imul, 1) := by decide +kernel
theorem d_Lv_partsIn_8 : decode b_Lv_partsIn 8 = .ok (.iload_n 2, 1) := by decide +kernel
theorem d_Lv_partsIn_9 : decode b_Lv_partsIn 9 = .ok (.iadd, 1) := by decide +kernel
theorem d_Lv_partsIn_10 : decode b_Lv_partsIn 10 = .ok (.laload, 1) := by decide +kernel
theorem d_Lv_partsIn_11 : decode b_Lv_partsIn 11 = .ok (.lreturn, 1) := by decide +kernel
theorem d_Pt_raised_0 : decode b_Pt_raised 0 = .ok (.lconst 0, 1) := by decide +kernel
theorem d_Pt_raised_1 : decode b_Pt_raised 1 = .ok (.lstore_n 2, 1) := by decide +kernel
theorem d_Pt_raised_2 : decode b_Pt_raised 2 = .ok (.iconst 0, 1) := by decide +kernel
theorem d_Pt_raised_3 : decode b_Pt_raised 3 = .ok (.istore 4, 2) := by decide +kernel
theorem d_Pt_raised_5 : decode b_Pt_raised 5 = .ok (.iload 4, 2) := by decide +kernel
theorem d_Pt_raised_7 : decode b_Pt_raised 7 = .ok (.iconst 5, 1) := by decide +kernel
theorem d_Pt_raised_8 : decode b_Pt_raised 8 = .ok (.if_icmp .gt 35, 3) := by decide +kernel
theorem d_Pt_raised_11 : decode b_Pt_raised 11 = .ok (.lload_n 0, 1) := by decide +kernel
theorem d_Pt_raised_12 : decode b_Pt_raised 12 = .ok (.iload 4, 2) := by decide +kernel
theorem d_Pt_raised_14 : decode b_Pt_raised 14 = .ok (.invokestatic 13, 3) := by decide +kernel
theorem d_Pt_raised_17 : decode b_Pt_raised 17 = .ok (.istore 5, 2) := by decide +kernel
theorem d_Pt_raised_19 : decode b_Pt_raised 19 = .ok (.iload 5, 2) := by decide +kernel
theorem d_Pt_raised_21 : decode b_Pt_raised 21 = .ok (.iconst (-1), 1) := by decide +kernel
theorem d_Pt_raised_22 : decode b_Pt_raised 22 = .ok (.if_icmp .eq 15, 3) := by decide +kernel
theorem d_Pt_raised_25 : decode b_Pt_raised 25 = .ok (.lload_n 2, 1) := by decide +kernel
theorem d_Pt_raised_26 : decode b_Pt_raised 26 = .ok (.iload 4, 2) := by decide +kernel
theorem d_Pt_raised_28 : decode b_Pt_raised 28 = .ok (.iload 5, 2) := by decide +kernel
theorem d_Pt_raised_30 : decode b_Pt_raised 30 = .ok (.iconst 1, 1) := by decide +kernel
theorem d_Pt_raised_31 : decode b_Pt_raised 31 = .ok (.iadd, 1) := by decide +kernel
theorem d_Pt_raised_32 : decode b_Pt_raised 32 = .ok (.invokestatic 17, 3) := by decide +kernel
theorem d_Pt_raised_35 : decode b_Pt_raised 35 = .ok (.lor, 1) := by decide +kernel
theorem d_Pt_raised_36 : decode b_Pt_raised 36 = .ok (.lstore_n 2, 1) := by decide +kernel
theorem d_Pt_raised_37 : decode b_Pt_raised 37 = .ok (.iinc 4 1, 3) := by decide +kernel
theorem d_Pt_raised_40 : decode b_Pt_raised 40 = .ok (.goto (-35), 3) := by decide +kernel
theorem d_Pt_raised_43 : decode b_Pt_raised 43 = .ok (.lload_n 2, 1) := by decide +kernel
theorem d_Pt_raised_44 : decode b_Pt_raised 44 = .ok (.lreturn, 1) := by decide +kernel
theorem d_Pt_at_0 : decode b_Pt_at 0 = .ok (.lload_n 0, 1) := by decide +kernel
theorem d_Pt_at_1 : decode b_Pt_at 1 = .ok (.iload_n 2, 1) := by decide +kernel
theorem d_Pt_at_2 : decode b_Pt_at 2 = .ok (.bipush 8, 2) := by decide +kernel
theorem d_Pt_at_4 : decode b_Pt_at 4 = .ok (.imul, 1) := by decide +kernel
theorem d_Pt_at_5 : decode b_Pt_at 5 = .ok (.lushr, 1) := by decide +kernel
theorem d_Pt_at_6 : decode b_Pt_at 6 = .ok (.ldc2_w 11, 3) := by decide +kernel
theorem d_Pt_at_9 : decode b_Pt_at 9 = .ok (.land, 1) := by decide +kernel
theorem d_Pt_at_10 : decode b_Pt_at 10 = .ok (.l2i, 1) := by decide +kernel
theorem d_Pt_at_11 : decode b_Pt_at 11 = .ok (.iconst 1, 1) := by decide +kernel
theorem d_Pt_at_12 : decode b_Pt_at 12 = .ok (.isub, 1) := by decide +kernel
theorem d_Pt_at_13 : decode b_Pt_at 13 = .ok (.ireturn, 1) := by decide +kernel
theorem d_Pt_joined_0 : decode b_Pt_joined 0 = .ok (.lconst 0, 1) := by decide +kernel
theorem d_Pt_joined_1 : decode b_Pt_joined 1 = .ok (.lstore 4, 2) := by decide +kernel
theorem d_Pt_joined_3 : decode b_Pt_joined 3 = .ok (.iconst (-1), 1) := by decide +kernel
theorem d_Pt_joined_4 : decode b_Pt_joined 4 = .ok (.istore 6, 2) := by decide +kernel
theorem d_Pt_joined_6 : decode b_Pt_joined 6 = .ok (.iconst 0, 1) := by decide +kernel
theorem d_Pt_joined_7 : decode b_Pt_joined 7 = .ok (.istore 7, 2) := by decide +kernel
theorem d_Pt_joined_9 : decode b_Pt_joined 9 = .ok (.iload 7, 2) := by decide +kernel
theorem d_Pt_joined_11 : decode b_Pt_joined 11 = .ok (.iconst 5, 1) := by decide +kernel
theorem d_Pt_joined_12 : decode b_Pt_joined 12 = .ok (.if_icmp .ge 47, 3) := by decide +kernel
theorem d_Pt_joined_15 : decode b_Pt_joined 15 = .ok (.lload_n 0, 1) := by decide +kernel
theorem d_Pt_joined_16 : decode b_Pt_joined 16 = .ok (.iload 7, 2) := by decide +kernel
theorem d_Pt_joined_18 : decode b_Pt_joined 18 = .ok (.invokestatic 13, 3) := by decide +kernel
theorem d_Pt_joined_21 : decode b_Pt_joined 21 = .ok (.lload_n 2, 1) := by decide +kernel
theorem d_Pt_joined_22 : decode b_Pt_joined 22 = .ok (.iload 7, 2) := by decide +kernel
theorem d_Pt_joined_24 : decode b_Pt_joined 24 = .ok (.invokestatic 13, 3) := by decide +kernel
theorem d_Pt_joined_27 : decode b_Pt_joined 27 = .ok (.invokestatic 21, 3) := by decide +kernel
theorem d_Pt_joined_30 : decode b_Pt_joined 30 = .ok (.istore 8, 2) := by decide +kernel
theorem d_Pt_joined_32 : decode b_Pt_joined 32 = .ok (.lload 4, 2) := by decide +kernel
theorem d_Pt_joined_34 : decode b_Pt_joined 34 = .ok (.iload 7, 2) := by decide +kernel
theorem d_Pt_joined_36 : decode b_Pt_joined 36 = .ok (.iload 8, 2) := by decide +kernel
theorem d_Pt_joined_38 : decode b_Pt_joined 38 = .ok (.invokestatic 17, 3) := by decide +kernel
theorem d_Pt_joined_41 : decode b_Pt_joined 41 = .ok (.lor, 1) := by decide +kernel
theorem d_Pt_joined_42 : decode b_Pt_joined 42 = .ok (.lstore 4, 2) := by decide +kernel
theorem d_Pt_joined_44 : decode b_Pt_joined 44 = .ok (.iload 6, 2) := by decide +kernel
theorem d_Pt_joined_46 : decode b_Pt_joined 46 = .ok (.iload 8, 2) := by decide +kernel
theorem d_Pt_joined_48 : decode b_Pt_joined 48 = .ok (.invokestatic 21, 3) := by decide +kernel
theorem d_Pt_joined_51 : decode b_Pt_joined 51 = .ok (.istore 6, 2) := by decide +kernel
theorem d_Pt_joined_53 : decode b_Pt_joined 53 = .ok (.iinc 7 1, 3) := by decide +kernel
theorem d_Pt_joined_56 : decode b_Pt_joined 56 = .ok (.goto (-47), 3) := by decide +kernel
theorem d_Pt_joined_59 : decode b_Pt_joined 59 = .ok (.lload_n 0, 1) := by decide +kernel
theorem d_Pt_joined_60 : decode b_Pt_joined 60 = .ok (.iconst 5, 1) := by decide +kernel
theorem d_Pt_joined_61 : decode b_Pt_joined 61 = .ok (.invokestatic 13, 3) := by decide +kernel
theorem d_Pt_joined_64 : decode b_Pt_joined 64 = .ok (.lload_n 2, 1) := by decide +kernel
theorem d_Pt_joined_65 : decode b_Pt_joined 65 = .ok (.iconst 5, 1) := by decide +kernel
theorem d_Pt_joined_66 : decode b_Pt_joined 66 = .ok (.invokestatic 13, 3) := by decide +kernel
theorem d_Pt_joined_69 : decode b_Pt_joined 69 = .ok (.invokestatic 21, 3) := by decide +kernel
theorem d_Pt_joined_72 : decode b_Pt_joined 72 = .ok (.istore 7, 2) := by decide +kernel
theorem d_Pt_joined_74 : decode b_Pt_joined 74 = .ok (.iload 6, 2) := by decide +kernel
theorem d_Pt_joined_76 : decode b_Pt_joined 76 = .ok (.iconst (-1), 1) := by decide +kernel
theorem d_Pt_joined_77 : decode b_Pt_joined 77 = .ok (.if_icmp .eq 12, 3) := by decide +kernel
theorem d_Pt_joined_80 : decode b_Pt_joined 80 = .ok (.iload 7, 2) := by decide +kernel
theorem d_Pt_joined_82 : decode b_Pt_joined 82 = .ok (.iload 6, 2) := by decide +kernel
theorem d_Pt_joined_84 : decode b_Pt_joined 84 = .ok (.iconst 1, 1) := by decide +kernel
theorem d_Pt_joined_85 : decode b_Pt_joined 85 = .ok (.iadd, 1) := by decide +kernel
theorem d_Pt_joined_86 : decode b_Pt_joined 86 = .ok (.if_icmp .le 7, 3) := by decide +kernel
theorem d_Pt_joined_89 : decode b_Pt_joined 89 = .ok (.iconst 1, 1) := by decide +kernel
theorem d_Pt_joined_90 : decode b_Pt_joined 90 = .ok (.goto 4, 3) := by decide +kernel
theorem d_Pt_joined_93 : decode b_Pt_joined 93 = .ok (.iconst 0, 1) := by decide +kernel
theorem d_Pt_joined_94 : decode b_Pt_joined 94 = .ok (.istore 8, 2) := by decide +kernel
theorem d_Pt_joined_96 : decode b_Pt_joined 96 = .ok (.iload 8, 2) := by decide +kernel
theorem d_Pt_joined_98 : decode b_Pt_joined 98 = .ok (.ifCond .eq 15, 3) := by decide +kernel
theorem d_Pt_joined_101 : decode b_Pt_joined 101 = .ok (.lload 4, 2) := by decide +kernel
theorem d_Pt_joined_103 : decode b_Pt_joined 103 = .ok (.iconst 5, 1) := by decide +kernel
theorem d_Pt_joined_104 : decode b_Pt_joined 104 = .ok (.iload 7, 2) := by decide +kernel
theorem d_Pt_joined_106 : decode b_Pt_joined 106 = .ok (.invokestatic 17, 3) := by decide +kernel
theorem d_Pt_joined_109 : decode b_Pt_joined 109 = .ok (.lor, 1) := by decide +kernel
theorem d_Pt_joined_110 : decode b_Pt_joined 110 = .ok (.goto 5, 3) := by decide +kernel
theorem d_Pt_joined_113 : decode b_Pt_joined 113 = .ok (.lload 4, 2) := by decide +kernel
theorem d_Pt_joined_115 : decode b_Pt_joined 115 = .ok (.lreturn, 1) := by decide +kernel
theorem d_Pt_vanish_0 : decode b_Pt_vanish 0 = .ok (.lload_n 0, 1) := by decide +kernel
theorem d_Pt_vanish_1 : decode b_Pt_vanish 1 = .ok (.iconst 5, 1) := by decide +kernel
theorem d_Pt_vanish_2 : decode b_Pt_vanish 2 = .ok (.invokestatic 13, 3) := by decide +kernel
theorem d_Pt_vanish_5 : decode b_Pt_vanish 5 = .ok (.ifCond .ne 7, 3) := by decide +kernel
theorem d_Pt_vanish_8 : decode b_Pt_vanish 8 = .ok (.iconst 1, 1) := by decide +kernel
theorem d_Pt_vanish_9 : decode b_Pt_vanish 9 = .ok (.goto 4, 3) := by decide +kernel
theorem d_Pt_vanish_12 : decode b_Pt_vanish 12 = .ok (.iconst 0, 1) := by decide +kernel
theorem d_Pt_vanish_13 : decode b_Pt_vanish 13 = .ok (.ireturn, 1) := by decide +kernel
theorem d_Lv_usesParameter_0 : decode b_Lv_usesParameter 0 = .ok (.aload_n 0, 1) := by decide +kernel
theorem d_Lv_usesParameter_1 : decode b_Lv_usesParameter 1 = .ok (.getfield 24, 3) := by decide +kernel
theorem d_Lv_usesParameter_4 : decode b_Lv_usesParameter 4 = .ok (.iload_n 1, 1) := by decide +kernel
theorem d_Lv_usesParameter_5 : decode b_Lv_usesParameter 5 = .ok (.iaload, 1) := by decide +kernel
theorem d_Lv_usesParameter_6 : decode b_Lv_usesParameter 6 = .ok (.iload_n 2, 1) := by decide +kernel
theorem d_Lv_usesParameter_7 : decode b_Lv_usesParameter 7 = .ok (.ishr, 1) := by decide +kernel
theorem d_Lv_usesParameter_8 : decode b_Lv_usesParameter 8 = .ok (.iconst 1, 1) := by decide +kernel
theorem d_Lv_usesParameter_9 : decode b_Lv_usesParameter 9 = .ok (.iand, 1) := by decide +kernel
theorem d_Lv_usesParameter_10 : decode b_Lv_usesParameter 10 = .ok (.ifCond .eq 7, 3) := by decide +kernel
theorem d_Lv_usesParameter_13 : decode b_Lv_usesParameter 13 = .ok (.iconst 1, 1) := by decide +kernel
theorem d_Lv_usesParameter_14 : decode b_Lv_usesParameter 14 = .ok (.goto 4, 3) := by decide +kernel
theorem d_Lv_usesParameter_17 : decode b_Lv_usesParameter 17 = .ok (.iconst 0, 1) := by decide +kernel
theorem d_Lv_usesParameter_18 : decode b_Lv_usesParameter 18 = .ok (.ireturn, 1) := by decide +kernel
theorem d_Lv_isParameter_0 : decode b_Lv_isParameter 0 = .ok (.aload_n 0, 1) := by decide +kernel
theorem d_Lv_isParameter_1 : decode b_Lv_isParameter 1 = .ok (.getfield 9, 3) := by decide +kernel
theorem d_Lv_isParameter_4 : decode b_Lv_isParameter 4 = .ok (.iload_n 1, 1) := by decide +kernel
theorem d_Lv_isParameter_5 : decode b_Lv_isParameter 5 = .ok (.iaload, 1) := by decide +kernel
theorem d_Lv_isParameter_6 : decode b_Lv_isParameter 6 = .ok (.iconst 1, 1) := by decide +kernel
theorem d_Lv_isParameter_7 : decode b_Lv_isParameter 7 = .ok (.if_icmp .ne 17, 3) := by decide +kernel
theorem d_Lv_isParameter_10 : decode b_Lv_isParameter 10 = .ok (.aload_n 0, 1) := by decide +kernel
theorem d_Lv_isParameter_11 : decode b_Lv_isParameter 11 = .ok (.getfield 15, 3) := by decide +kernel
theorem d_Lv_isParameter_14 : decode b_Lv_isParameter 14 = .ok (.iload_n 1, 1) := by decide +kernel
theorem d_Lv_isParameter_15 : decode b_Lv_isParameter 15 = .ok (.iaload, 1) := by decide +kernel
theorem d_Lv_isParameter_16 : decode b_Lv_isParameter 16 = .ok (.iload_n 2, 1) := by decide +kernel
theorem d_Lv_isParameter_17 : decode b_Lv_isParameter 17 = .ok (.if_icmp .ne 7, 3) := by decide +kernel
theorem d_Lv_isParameter_20 : decode b_Lv_isParameter 20 = .ok (.iconst 1, 1) := by decide +kernel
theorem d_Lv_isParameter_21 : decode b_Lv_isParameter 21 = .ok (.goto 4, 3) := by decide +kernel
theorem d_Lv_isParameter_24 : decode b_Lv_isParameter 24 = .ok (.iconst 0, 1) := by decide +kernel
theorem d_Lv_isParameter_25 : decode b_Lv_isParameter 25 = .ok (.ireturn, 1) := by decide +kernel
theorem d_Lv_firstRegionAbove_0 : decode b_Lv_firstRegionAbove 0 = .ok (.iconst 0, 1) := by decide +kernel
theorem d_Lv_firstRegionAbove_1 : decode b_Lv_firstRegionAbove 1 = .ok (.istore_n 3, 1) := by decide +kernel
theorem d_Lv_firstRegionAbove_2 : decode b_Lv_firstRegionAbove 2 = .ok (.iload_n 3, 1) := by decide +kernel
theorem d_Lv_firstRegionAbove_3 : decode b_Lv_firstRegionAbove 3 = .ok (.bipush 32, 2) := by decide +kernel
theorem d_Lv_firstRegionAbove_5 : decode b_Lv_firstRegionAbove 5 = .ok (.if_icmp .ge 29, 3) := by decide +kernel
theorem d_Lv_firstRegionAbove_8 : decode b_Lv_firstRegionAbove 8 = .ok (.aload_n 0, 1) := by decide +kernel
theorem d_Lv_firstRegionAbove_9 : decode b_Lv_firstRegionAbove 9 = .ok (.iload_n 1, 1) := by decide +kernel
theorem d_Lv_firstRegionAbove_10 : decode b_Lv_firstRegionAbove 10 = .ok (.iload_n 3, 1) := by decide +kernel
theorem d_Lv_firstRegionAbove_11 : decode b_Lv_firstRegionAbove 11 = .ok (.invokevirtual 80, 3) := by decide +kernel
theorem d_Lv_firstRegionAbove_14 : decode b_Lv_firstRegionAbove 14 = .ok (.aload_n 0, 1) := by decide +kernel
theorem d_Lv_firstRegionAbove_15 : decode b_Lv_firstRegionAbove 15 = .ok (.iload_n 2, 1) := by decide +kernel
theorem d_Lv_firstRegionAbove_16 : decode b_Lv_firstRegionAbove 16 = .ok (.iload_n 3, 1) := by decide +kernel
theorem d_Lv_firstRegionAbove_17 : decode b_Lv_firstRegionAbove 17 = .ok (.invokevirtual 80, 3) := by decide +kernel
theorem d_Lv_firstRegionAbove_20 : decode b_Lv_firstRegionAbove 20 = .ok (.invokestatic 99, 3) := by decide +kernel
theorem d_Lv_firstRegionAbove_23 : decode b_Lv_firstRegionAbove 23 = .ok (.ifCond .ne 5, 3) := by decide +kernel
theorem d_Lv_firstRegionAbove_26 : decode b_Lv_firstRegionAbove 26 = .ok (.iload_n 3, 1) := by decide +kernel
theorem d_Lv_firstRegionAbove_27 : decode b_Lv_firstRegionAbove 27 = .ok (.ireturn, 1) := by decide +kernel
theorem d_Lv_firstRegionAbove_28 : decode b_Lv_firstRegionAbove 28 = .ok (.iinc 3 1, 3) := by decide +kernel
theorem d_Lv_firstRegionAbove_31 : decode b_Lv_firstRegionAbove 31 = .ok (.goto (-29), 3) := by decide +kernel
theorem d_Lv_firstRegionAbove_34 : decode b_Lv_firstRegionAbove 34 = .ok (.iconst (-1), 1) := by decide +kernel
theorem d_Lv_firstRegionAbove_35 : decode b_Lv_firstRegionAbove 35 = .ok (.ireturn, 1) := by decide +kernel
theorem d_Pt_areAtMost_0 : decode b_Pt_areAtMost 0 = .ok (.lload_n 0, 1) := by decide +kernel
theorem d_Pt_areAtMost_1 : decode b_Pt_areAtMost 1 = .ok (.lload_n 2, 1) := by decide +kernel
theorem d_Pt_areAtMost_2 : decode b_Pt_areAtMost 2 = .ok (.invokestatic 27, 3) := by decide +kernel
theorem d_Pt_areAtMost_5 : decode b_Pt_areAtMost 5 = .ok (.iconst (-1), 1) := by decide +kernel
theorem d_Pt_areAtMost_6 : decode b_Pt_areAtMost 6 = .ok (.if_icmp .ne 19, 3) := by decide +kernel
theorem d_Pt_areAtMost_9 : decode b_Pt_areAtMost 9 = .ok (.lload_n 0, 1) := by decide +kernel
theorem d_Pt_areAtMost_10 : decode b_Pt_areAtMost 10 = .ok (.iconst 5, 1) := by decide +kernel
theorem d_Pt_areAtMost_11 : decode b_Pt_areAtMost 11 = .ok (.invokestatic 13, 3) := by decide +kernel
theorem d_Pt_areAtMost_14 : decode b_Pt_areAtMost 14 = .ok (.lload_n 2, 1) := by decide +kernel
theorem d_Pt_areAtMost_15 : decode b_Pt_areAtMost 15 = .ok (.invokestatic 31, 3) := by decide +kernel
theorem d_Pt_areAtMost_18 : decode b_Pt_areAtMost 18 = .ok (.if_icmp .gt 7, 3) := by decide +kernel
theorem d_Pt_areAtMost_21 : decode b_Pt_areAtMost 21 = .ok (.iconst 1, 1) := by decide +kernel
theorem d_Pt_areAtMost_22 : decode b_Pt_areAtMost 22 = .ok (.goto 4, 3) := by decide +kernel
theorem d_Pt_areAtMost_25 : decode b_Pt_areAtMost 25 = .ok (.iconst 0, 1) := by decide +kernel
theorem d_Pt_areAtMost_26 : decode b_Pt_areAtMost 26 = .ok (.ireturn, 1) := by decide +kernel
theorem d_Pt_lastHigher_0 : decode b_Pt_lastHigher 0 = .ok (.iconst 4, 1) := by decide +kernel
theorem d_Pt_lastHigher_1 : decode b_Pt_lastHigher 1 = .ok (.istore 4, 2) := by decide +kernel
theorem d_Pt_lastHigher_3 : decode b_Pt_lastHigher 3 = .ok (.iload 4, 2) := by decide +kernel
theorem d_Pt_lastHigher_5 : decode b_Pt_lastHigher 5 = .ok (.ifCond .lt 27, 3) := by decide +kernel
theorem d_Pt_lastHigher_8 : decode b_Pt_lastHigher 8 = .ok (.lload_n 0, 1) := by decide +kernel
theorem d_Pt_lastHigher_9 : decode b_Pt_lastHigher 9 = .ok (.iload 4, 2) := by decide +kernel
theorem d_Pt_lastHigher_11 : decode b_Pt_lastHigher 11 = .ok (.invokestatic 13, 3) := by decide +kernel
theorem d_Pt_lastHigher_14 : decode b_Pt_lastHigher 14 = .ok (.lload_n 2, 1) := by decide +kernel
theorem d_Pt_lastHigher_15 : decode b_Pt_lastHigher 15 = .ok (.iload 4, 2) := by decide +kernel
theorem d_Pt_lastHigher_17 : decode b_Pt_lastHigher 17 = .ok (.invokestatic 13, 3) := by decide +kernel
theorem d_Pt_lastHigher_20 : decode b_Pt_lastHigher 20 = .ok (.if_icmp .le 6, 3) := by decide +kernel
theorem d_Pt_lastHigher_23 : decode b_Pt_lastHigher 23 = .ok (.iload 4, 2) := by decide +kernel
theorem d_Pt_lastHigher_25 : decode b_Pt_lastHigher 25 = .ok (.ireturn, 1) := by decide +kernel
theorem d_Pt_lastHigher_26 : decode b_Pt_lastHigher 26 = .ok (.iinc 4 (-1), 3) := by decide +kernel
theorem d_Pt_lastHigher_29 : decode b_Pt_lastHigher 29 = .ok (.goto (-26), 3) := by decide +kernel
theorem d_Pt_lastHigher_32 : decode b_Pt_lastHigher 32 = .ok (.iconst (-1), 1) := by decide +kernel
theorem d_Pt_lastHigher_33 : decode b_Pt_lastHigher 33 = .ok (.ireturn, 1) := by decide +kernel
theorem d_Pt_valueAtOnes_0 : decode b_Pt_valueAtOnes 0 = .ok (.lload_n 0, 1) := by decide +kernel
theorem d_Pt_valueAtOnes_1 : decode b_Pt_valueAtOnes 1 = .ok (.iconst 5, 1) := by decide +kernel
theorem d_Pt_valueAtOnes_2 : decode b_Pt_valueAtOnes 2 = .ok (.invokestatic 13, 3) := by decide +kernel
theorem d_Pt_valueAtOnes_5 : decode b_Pt_valueAtOnes 5 = .ok (.istore_n 2, 1) := by decide +kernel
theorem d_Pt_valueAtOnes_6 : decode b_Pt_valueAtOnes 6 = .ok (.iconst 0, 1) := by decide +kernel
theorem d_Pt_valueAtOnes_7 : decode b_Pt_valueAtOnes 7 = .ok (.istore_n 3, 1) := by decide +kernel
theorem d_Pt_valueAtOnes_8 : decode b_Pt_valueAtOnes 8 = .ok (.iload_n 3, 1) := by decide +kernel
theorem d_Pt_valueAtOnes_9 : decode b_Pt_valueAtOnes 9 = .ok (.iconst 5, 1) := by decide +kernel
theorem d_Pt_valueAtOnes_10 : decode b_Pt_valueAtOnes 10 = .ok (.if_icmp .ge 21, 3) := by decide +kernel
theorem d_Pt_valueAtOnes_13 : decode b_Pt_valueAtOnes 13 = .ok (.iload_n 2, 1) := by decide +kernel
theorem d_Pt_valueAtOnes_14 : decode b_Pt_valueAtOnes 14 = .ok (.lload_n 0, 1) := by decide +kernel
theorem d_Pt_valueAtOnes_15 : decode b_Pt_valueAtOnes 15 = .ok (.iload_n 3, 1) := by decide +kernel
theorem d_Pt_valueAtOnes_16 : decode b_Pt_valueAtOnes 16 = .ok (.invokestatic 13, 3) := by decide +kernel
theorem d_Pt_valueAtOnes_19 : decode b_Pt_valueAtOnes 19 = .ok (.iconst 1, 1) := by decide +kernel
theorem d_Pt_valueAtOnes_20 : decode b_Pt_valueAtOnes 20 = .ok (.iadd, 1) := by decide +kernel
theorem d_Pt_valueAtOnes_21 : decode b_Pt_valueAtOnes 21 = .ok (.invokestatic 21, 3) := by decide +kernel
theorem d_Pt_valueAtOnes_24 : decode b_Pt_valueAtOnes 24 = .ok (.istore_n 2, 1) := by decide +kernel
theorem d_Pt_valueAtOnes_25 : decode b_Pt_valueAtOnes 25 = .ok (.iinc 3 1, 3) := by decide +kernel
theorem d_Pt_valueAtOnes_28 : decode b_Pt_valueAtOnes 28 = .ok (.goto (-20), 3) := by decide +kernel
theorem d_Pt_valueAtOnes_31 : decode b_Pt_valueAtOnes 31 = .ok (.iload_n 2, 1) := by decide +kernel
theorem d_Pt_valueAtOnes_32 : decode b_Pt_valueAtOnes 32 = .ok (.ireturn, 1) := by decide +kernel
theorem d_Lv_haveSameParts_0 : decode b_Lv_haveSameParts 0 = .ok (.iconst 0, 1) := by decide +kernel
theorem d_Lv_haveSameParts_1 : decode b_Lv_haveSameParts 1 = .ok (.istore_n 3, 1) := by decide +kernel
theorem d_Lv_haveSameParts_2 : decode b_Lv_haveSameParts 2 = .ok (.iload_n 3, 1) := by decide +kernel
theorem d_Lv_haveSameParts_3 : decode b_Lv_haveSameParts 3 = .ok (.bipush 32, 2) := by decide +kernel
theorem d_Lv_haveSameParts_5 : decode b_Lv_haveSameParts 5 = .ok (.if_icmp .ge 27, 3) := by decide +kernel
theorem d_Lv_haveSameParts_8 : decode b_Lv_haveSameParts 8 = .ok (.aload_n 0, 1) := by decide +kernel
theorem d_Lv_haveSameParts_9 : decode b_Lv_haveSameParts 9 = .ok (.iload_n 1, 1) := by decide +kernel
theorem d_Lv_haveSameParts_10 : decode b_Lv_haveSameParts 10 = .ok (.iload_n 3, 1) := by decide +kernel
theorem d_Lv_haveSameParts_11 : decode b_Lv_haveSameParts 11 = .ok (.invokevirtual 80, 3) := by decide +kernel
theorem d_Lv_haveSameParts_14 : decode b_Lv_haveSameParts 14 = .ok (.aload_n 0, 1) := by decide +kernel
theorem d_Lv_haveSameParts_15 : decode b_Lv_haveSameParts 15 = .ok (.iload_n 2, 1) := by decide +kernel
theorem d_Lv_haveSameParts_16 : decode b_Lv_haveSameParts 16 = .ok (.iload_n 3, 1) := by decide +kernel
theorem d_Lv_haveSameParts_17 : decode b_Lv_haveSameParts 17 = .ok (.invokevirtual 80, 3) := by decide +kernel
theorem d_Lv_haveSameParts_20 : decode b_Lv_haveSameParts 20 = .ok (.lcmp, 1) := by decide +kernel
theorem d_Lv_haveSameParts_21 : decode b_Lv_haveSameParts 21 = .ok (.ifCond .eq 5, 3) := by decide +kernel
theorem d_Lv_haveSameParts_24 : decode b_Lv_haveSameParts 24 = .ok (.iconst 0, 1) := by decide +kernel
theorem d_Lv_haveSameParts_25 : decode b_Lv_haveSameParts 25 = .ok (.ireturn, 1) := by decide +kernel
theorem d_Lv_haveSameParts_26 : decode b_Lv_haveSameParts 26 = .ok (.iinc 3 1, 3) := by decide +kernel
theorem d_Lv_haveSameParts_29 : decode b_Lv_haveSameParts 29 = .ok (.goto (-27), 3) := by decide +kernel
theorem d_Lv_haveSameParts_32 : decode b_Lv_haveSameParts 32 = .ok (.iconst 1, 1) := by decide +kernel
theorem d_Lv_haveSameParts_33 : decode b_Lv_haveSameParts 33 = .ok (.ireturn, 1) := by decide +kernel
theorem d_Lv_leastLike_0 : decode b_Lv_leastLike 0 = .ok (.iconst 0, 1) := by decide +kernel
theorem d_Lv_leastLike_1 : decode b_Lv_leastLike 1 = .ok (.istore_n 2, 1) := by decide +kernel
theorem d_Lv_leastLike_2 : decode b_Lv_leastLike 2 = .ok (.iload_n 2, 1) := by decide +kernel
theorem d_Lv_leastLike_3 : decode b_Lv_leastLike 3 = .ok (.iload_n 1, 1) := by decide +kernel
theorem d_Lv_leastLike_4 : decode b_Lv_leastLike 4 = .ok (.if_icmp .ge 20, 3) := by decide +kernel
theorem d_Lv_leastLike_7 : decode b_Lv_leastLike 7 = .ok (.aload_n 0, 1) := by decide +kernel
theorem d_Lv_leastLike_8 : decode b_Lv_leastLike 8 = .ok (.iload_n 2, 1) := by decide +kernel
theorem d_Lv_leastLike_9 : decode b_Lv_leastLike 9 = .ok (.iload_n 1, 1) := by decide +kernel
theorem d_Lv_leastLike_10 : decode b_Lv_leastLike 10 = .ok (.invokevirtual 103, 3) := by decide +kernel
theorem d_Lv_leastLike_13 : decode b_Lv_leastLike 13 = .ok (.ifCond .eq 5, 3) := by decide +kernel
theorem d_Lv_leastLike_16 : decode b_Lv_leastLike 16 = .ok (.iload_n 2, 1) := by decide +kernel
theorem d_Lv_leastLike_17 : decode b_Lv_leastLike 17 = .ok (.ireturn, 1) := by decide +kernel
theorem d_Lv_leastLike_18 : decode b_Lv_leastLike 18 = .ok (.iinc 2 1, 3) := by decide +kernel
theorem d_Lv_leastLike_21 : decode b_Lv_leastLike 21 = .ok (.goto (-19), 3) := by decide +kernel
theorem d_Lv_leastLike_24 : decode b_Lv_leastLike 24 = .ok (.iload_n 1, 1) := by decide +kernel
theorem d_Lv_leastLike_25 : decode b_Lv_leastLike 25 = .ok (.ireturn, 1) := by decide +kernel
theorem d_Pt_pointAbove_0 : decode b_Pt_pointAbove 0 = .ok (.iload 4, 2) := by decide +kernel
theorem d_Pt_pointAbove_2 : decode b_Pt_pointAbove 2 = .ok (.invokestatic 35, 3) := by decide +kernel
theorem d_Pt_pointAbove_5 : decode b_Pt_pointAbove 5 = .ok (.lstore 5, 2) := by decide +kernel
theorem d_Pt_pointAbove_7 : decode b_Pt_pointAbove 7 = .ok (.lload_n 0, 1) := by decide +kernel
theorem d_Pt_pointAbove_8 : decode b_Pt_pointAbove 8 = .ok (.lload_n 2, 1) := by decide +kernel
theorem d_Pt_pointAbove_9 : decode b_Pt_pointAbove 9 = .ok (.invokestatic 27, 3) := by decide +kernel
theorem d_Pt_pointAbove_12 : decode b_Pt_pointAbove 12 = .ok (.istore 7, 2) := by decide +kernel
theorem d_Pt_pointAbove_14 : decode b_Pt_pointAbove 14 = .ok (.iload 7, 2) := by decide +kernel
theorem d_Pt_pointAbove_16 : decode b_Pt_pointAbove 16 = .ok (.iconst (-1), 1) := by decide +kernel
theorem d_Pt_pointAbove_17 : decode b_Pt_pointAbove 17 = .ok (.if_icmp .eq 14, 3) := by decide +kernel
theorem d_Pt_pointAbove_20 : decode b_Pt_pointAbove 20 = .ok (.lload_n 0, 1) := by decide +kernel
theorem d_Pt_pointAbove_21 : decode b_Pt_pointAbove 21 = .ok (.invokestatic 31, 3) := by decide +kernel
theorem d_Pt_pointAbove_24 : decode b_Pt_pointAbove 24 = .ok (.lload_n 2, 1) := by decide +kernel
theorem d_Pt_pointAbove_25 : decode b_Pt_pointAbove 25 = .ok (.invokestatic 31, 3) := by decide +kernel
theorem d_Pt_pointAbove_28 : decode b_Pt_pointAbove 28 = .ok (.if_icmp .le 6, 3) := by decide +kernel
theorem d_Pt_pointAbove_31 : decode b_Pt_pointAbove 31 = .ok (.lload 5, 2) := by decide +kernel
theorem d_Pt_pointAbove_33 : decode b_Pt_pointAbove 33 = .ok (.lreturn, 1) := by decide +kernel
theorem d_Pt_pointAbove_34 : decode b_Pt_pointAbove 34 = .ok (.lload_n 2, 1) := by decide +kernel
theorem d_Pt_pointAbove_35 : decode b_Pt_pointAbove 35 = .ok (.invokestatic 31, 3) := by decide +kernel
theorem d_Pt_pointAbove_38 : decode b_Pt_pointAbove 38 = .ok (.lload_n 0, 1) := by decide +kernel
theorem d_Pt_pointAbove_39 : decode b_Pt_pointAbove 39 = .ok (.iload 7, 2) := by decide +kernel
theorem d_Pt_pointAbove_41 : decode b_Pt_pointAbove 41 = .ok (.invokestatic 13, 3) := by decide +kernel
theorem d_Pt_pointAbove_44 : decode b_Pt_pointAbove 44 = .ok (.isub, 1) := by decide +kernel
theorem d_Pt_pointAbove_45 : decode b_Pt_pointAbove 45 = .ok (.iconst 1, 1) := by decide +kernel
theorem d_Pt_pointAbove_46 : decode b_Pt_pointAbove 46 = .ok (.iadd, 1) := by decide +kernel
theorem d_Pt_pointAbove_47 : decode b_Pt_pointAbove 47 = .ok (.istore 8, 2) := by decide +kernel
theorem d_Pt_pointAbove_49 : decode b_Pt_pointAbove 49 = .ok (.lload 5, 2) := by decide +kernel
theorem d_Pt_pointAbove_51 : decode b_Pt_pointAbove 51 = .ok (.iload 8, 2) := by decide +kernel
theorem d_Pt_pointAbove_53 : decode b_Pt_pointAbove 53 = .ok (.iconst 1, 1) := by decide +kernel
theorem d_Pt_pointAbove_54 : decode b_Pt_pointAbove 54 = .ok (.isub, 1) := by decide +kernel
theorem d_Pt_pointAbove_55 : decode b_Pt_pointAbove 55 = .ok (.i2l, 1) := by decide +kernel
theorem d_Pt_pointAbove_56 : decode b_Pt_pointAbove 56 = .ok (.iload 7, 2) := by decide +kernel
theorem d_Pt_pointAbove_58 : decode b_Pt_pointAbove 58 = .ok (.bipush 12, 2) := by decide +kernel
theorem d_Pt_pointAbove_60 : decode b_Pt_pointAbove 60 = .ok (.imul, 1) := by decide +kernel
theorem d_Pt_pointAbove_61 : decode b_Pt_pointAbove 61 = .ok (.lshl, 1) := by decide +kernel
theorem d_Pt_pointAbove_62 : decode b_Pt_pointAbove 62 = .ok (.ladd, 1) := by decide +kernel
theorem d_Pt_pointAbove_63 : decode b_Pt_pointAbove 63 = .ok (.lreturn, 1) := by decide +kernel
theorem d_Pt_onesOf_0 : decode b_Pt_onesOf 0 = .ok (.lconst 0, 1) := by decide +kernel
theorem d_Pt_onesOf_1 : decode b_Pt_onesOf 1 = .ok (.lstore_n 1, 1) := by decide +kernel
theorem d_Pt_onesOf_2 : decode b_Pt_onesOf 2 = .ok (.iconst 0, 1) := by decide +kernel
theorem d_Pt_onesOf_3 : decode b_Pt_onesOf 3 = .ok (.istore_n 3, 1) := by decide +kernel
theorem d_Pt_onesOf_4 : decode b_Pt_onesOf 4 = .ok (.iload_n 3, 1) := by decide +kernel
theorem d_Pt_onesOf_5 : decode b_Pt_onesOf 5 = .ok (.iconst 5, 1) := by decide +kernel
theorem d_Pt_onesOf_6 : decode b_Pt_onesOf 6 = .ok (.if_icmp .ge 23, 3) := by decide +kernel
theorem d_Pt_onesOf_9 : decode b_Pt_onesOf 9 = .ok (.lload_n 1, 1) := by decide +kernel
theorem d_Pt_onesOf_10 : decode b_Pt_onesOf 10 = .ok (.iload_n 0, 1) := by decide +kernel
theorem d_Pt_onesOf_11 : decode b_Pt_onesOf 11 = .ok (.iload_n 3, 1) := by decide +kernel
theorem d_Pt_onesOf_12 : decode b_Pt_onesOf 12 = .ok (.ishr, 1) := by decide +kernel
theorem d_Pt_onesOf_13 : decode b_Pt_onesOf 13 = .ok (.iconst 1, 1) := by decide +kernel
theorem d_Pt_onesOf_14 : decode b_Pt_onesOf 14 = .ok (.iand, 1) := by decide +kernel
theorem d_Pt_onesOf_15 : decode b_Pt_onesOf 15 = .ok (.i2l, 1) := by decide +kernel
theorem d_Pt_onesOf_16 : decode b_Pt_onesOf 16 = .ok (.iload_n 3, 1) := by decide +kernel
theorem d_Pt_onesOf_17 : decode b_Pt_onesOf 17 = .ok (.bipush 12, 2) := by decide +kernel
theorem d_Pt_onesOf_19 : decode b_Pt_onesOf 19 = .ok (.imul, 1) := by decide +kernel
theorem d_Pt_onesOf_20 : decode b_Pt_onesOf 20 = .ok (.lshl, 1) := by decide +kernel
theorem d_Pt_onesOf_21 : decode b_Pt_onesOf 21 = .ok (.lor, 1) := by decide +kernel
theorem d_Pt_onesOf_22 : decode b_Pt_onesOf 22 = .ok (.lstore_n 1, 1) := by decide +kernel
theorem d_Pt_onesOf_23 : decode b_Pt_onesOf 23 = .ok (.iinc 3 1, 3) := by decide +kernel
theorem d_Pt_onesOf_26 : decode b_Pt_onesOf 26 = .ok (.goto (-22), 3) := by decide +kernel
theorem d_Pt_onesOf_29 : decode b_Pt_onesOf 29 = .ok (.lload_n 1, 1) := by decide +kernel
theorem d_Pt_onesOf_30 : decode b_Pt_onesOf 30 = .ok (.lreturn, 1) := by decide +kernel
end
section
theorem d_LR_init_0 : decode b_LR_init 0 = .ok (.aload_n 0, 1) := by decide +kernel
theorem d_LR_init_1 : decode b_LR_init 1 = .ok (.invokespecial 3, 3) := by decide +kernel
theorem d_LR_init_4 : decode b_LR_init 4 = .ok (.aload_n 0, 1) := by decide +kernel
theorem d_LR_init_5 : decode b_LR_init 5 = .ok (.new 9, 3) := by decide +kernel
theorem d_LR_init_8 : decode b_LR_init 8 = .ok (.dup, 1) := by decide +kernel
theorem d_LR_init_9 : decode b_LR_init 9 = .ok (.invokespecial 11, 3) := by decide +kernel
theorem d_LR_init_12 : decode b_LR_init 12 = .ok (.putfield 12, 3) := by decide +kernel
theorem d_LR_init_15 : decode b_LR_init 15 = .ok (.aload_n 0, 1) := by decide +kernel
theorem d_LR_init_16 : decode b_LR_init 16 = .ok (.new 16, 3) := by decide +kernel
theorem d_LR_init_19 : decode b_LR_init 19 = .ok (.dup, 1) := by decide +kernel
theorem d_LR_init_20 : decode b_LR_init 20 = .ok (.aload_n 0, 1) := by decide +kernel
theorem d_LR_init_21 : decode b_LR_init 21 = .ok (.getfield 12, 3) := by decide +kernel
theorem d_LR_init_24 : decode b_LR_init 24 = .ok (.invokespecial 18, 3) := by decide +kernel
theorem d_LR_init_27 : decode b_LR_init 27 = .ok (.putfield 21, 3) := by decide +kernel
theorem d_LR_init_30 : decode b_LR_init 30 = .ok (.aload_n 0, 1) := by decide +kernel
theorem d_LR_init_31 : decode b_LR_init 31 = .ok (.new 25, 3) := by decide +kernel
theorem d_LR_init_34 : decode b_LR_init 34 = .ok (.dup, 1) := by decide +kernel
theorem d_LR_init_35 : decode b_LR_init 35 = .ok (.invokespecial 27, 3) := by decide +kernel
theorem d_LR_init_38 : decode b_LR_init 38 = .ok (.putfield 28, 3) := by decide +kernel
theorem d_LR_init_41 : decode b_LR_init 41 = .ok (.return_, 1) := by decide +kernel
theorem d_Rp_init_0 : decode b_Rp_init 0 = .ok (.aload_n 0, 1) := by decide +kernel
theorem d_Rp_init_1 : decode b_Rp_init 1 = .ok (.invokespecial 3, 3) := by decide +kernel
theorem d_Rp_init_4 : decode b_Rp_init 4 = .ok (.aload_n 0, 1) := by decide +kernel
theorem d_Rp_init_5 : decode b_Rp_init 5 = .ok (.bipush 120, 2) := by decide +kernel
theorem d_Rp_init_7 : decode b_Rp_init 7 = .ok (.newarray .int, 2) := by decide +kernel
theorem d_Rp_init_9 : decode b_Rp_init 9 = .ok (.putfield 9, 3) := by decide +kernel
theorem d_Rp_init_12 : decode b_Rp_init 12 = .ok (.aload_n 0, 1) := by decide +kernel
theorem d_Rp_init_13 : decode b_Rp_init 13 = .ok (.bipush 120, 2) := by decide +kernel
theorem d_Rp_init_15 : decode b_Rp_init 15 = .ok (.newarray .int, 2) := by decide +kernel
theorem d_Rp_init_17 : decode b_Rp_init 17 = .ok (.putfield 15, 3) := by decide +kernel
theorem d_Rp_init_20 : decode b_Rp_init 20 = .ok (.aload_n 0, 1) := by decide +kernel
theorem d_Rp_init_21 : decode b_Rp_init 21 = .ok (.aload_n 1, 1) := by decide +kernel
theorem d_Rp_init_22 : decode b_Rp_init 22 = .ok (.putfield 18, 3) := by decide +kernel
theorem d_Rp_init_25 : decode b_Rp_init 25 = .ok (.return_, 1) := by decide +kernel
theorem d_Nd_init_0 : decode b_Nd_init 0 = .ok (.aload_n 0, 1) := by decide +kernel
theorem d_Nd_init_1 : decode b_Nd_init 1 = .ok (.invokespecial 3, 3) := by decide +kernel
theorem d_Nd_init_4 : decode b_Nd_init 4 = .ok (.aload_n 0, 1) := by decide +kernel
theorem d_Nd_init_5 : decode b_Nd_init 5 = .ok (.bipush 30, 2) := by decide +kernel
theorem d_Nd_init_7 : decode b_Nd_init 7 = .ok (.newarray .int, 2) := by decide +kernel
theorem d_Nd_init_9 : decode b_Nd_init 9 = .ok (.putfield 9, 3) := by decide +kernel
theorem d_Nd_init_12 : decode b_Nd_init 12 = .ok (.aload_n 0, 1) := by decide +kernel
theorem d_Nd_init_13 : decode b_Nd_init 13 = .ok (.bipush 30, 2) := by decide +kernel
theorem d_Nd_init_15 : decode b_Nd_init 15 = .ok (.newarray .int, 2) := by decide +kernel
theorem d_Nd_init_17 : decode b_Nd_init 17 = .ok (.putfield 15, 3) := by decide +kernel
theorem d_Nd_init_20 : decode b_Nd_init 20 = .ok (.aload_n 0, 1) := by decide +kernel
theorem d_Nd_init_21 : decode b_Nd_init 21 = .ok (.bipush 30, 2) := by decide +kernel
theorem d_Nd_init_23 : decode b_Nd_init 23 = .ok (.newarray .int, 2) := by decide +kernel
theorem d_Nd_init_25 : decode b_Nd_init 25 = .ok (.putfield 18, 3) := by decide +kernel
theorem d_Nd_init_28 : decode b_Nd_init 28 = .ok (.aload_n 0, 1) := by decide +kernel
theorem d_Nd_init_29 : decode b_Nd_init 29 = .ok (.bipush 30, 2) := by decide +kernel
theorem d_Nd_init_31 : decode b_Nd_init 31 = .ok (.newarray .boolean, 2) := by decide +kernel
theorem d_Nd_init_33 : decode b_Nd_init 33 = .ok (.putfield 21, 3) := by decide +kernel
theorem d_Nd_init_36 : decode b_Nd_init 36 = .ok (.aload_n 0, 1) := by decide +kernel
theorem d_Nd_init_37 : decode b_Nd_init 37 = .ok (.bipush 11, 2) := by decide +kernel
theorem d_Nd_init_39 : decode b_Nd_init 39 = .ok (.newarray .int, 2) := by decide +kernel
theorem d_Nd_init_41 : decode b_Nd_init 41 = .ok (.putfield 25, 3) := by decide +kernel
theorem d_Nd_init_44 : decode b_Nd_init 44 = .ok (.aload_n 0, 1) := by decide +kernel
theorem d_Nd_init_45 : decode b_Nd_init 45 = .ok (.iconst 0, 1) := by decide +kernel
theorem d_Nd_init_46 : decode b_Nd_init 46 = .ok (.putfield 28, 3) := by decide +kernel
theorem d_Nd_init_49 : decode b_Nd_init 49 = .ok (.aload_n 0, 1) := by decide +kernel
theorem d_Nd_init_50 : decode b_Nd_init 50 = .ok (.iconst 0, 1) := by decide +kernel
theorem d_Nd_init_51 : decode b_Nd_init 51 = .ok (.putfield 32, 3) := by decide +kernel
theorem d_Nd_init_54 : decode b_Nd_init 54 = .ok (.aload_n 0, 1) := by decide +kernel
theorem d_Nd_init_55 : decode b_Nd_init 55 = .ok (.iconst 0, 1) := by decide +kernel
theorem d_Nd_init_56 : decode b_Nd_init 56 = .ok (.putfield 35, 3) := by decide +kernel
theorem d_Nd_init_59 : decode b_Nd_init 59 = .ok (.aload_n 0, 1) := by decide +kernel
theorem d_Nd_init_60 : decode b_Nd_init 60 = .ok (.iconst 0, 1) := by decide +kernel
theorem d_Nd_init_61 : decode b_Nd_init 61 = .ok (.putfield 39, 3) := by decide +kernel
theorem d_Nd_init_64 : decode b_Nd_init 64 = .ok (.aload_n 0, 1) := by decide +kernel
theorem d_Nd_init_65 : decode b_Nd_init 65 = .ok (.iconst 0, 1) := by decide +kernel
theorem d_Nd_init_66 : decode b_Nd_init 66 = .ok (.putfield 42, 3) := by decide +kernel
theorem d_Nd_init_69 : decode b_Nd_init 69 = .ok (.return_, 1) := by decide +kernel
theorem d_LR_level_0 : decode b_LR_level 0 = .ok (.aload_n 0, 1) := by decide +kernel
theorem d_LR_level_1 : decode b_LR_level 1 = .ok (.getfield 12, 3) := by decide +kernel
theorem d_LR_level_4 : decode b_LR_level 4 = .ok (.iload_n 1, 1) := by decide +kernel
theorem d_LR_level_5 : decode b_LR_level 5 = .ok (.invokevirtual 43, 3) := by decide +kernel
theorem d_LR_level_8 : decode b_LR_level 8 = .ok (.ifCond .ne 5, 3) := by decide +kernel
theorem d_LR_level_11 : decode b_LR_level 11 = .ok (.iconst (-1), 1) := by decide +kernel
theorem d_LR_level_12 : decode b_LR_level 12 = .ok (.ireturn, 1) := by decide +kernel
theorem d_LR_level_13 : decode b_LR_level 13 = .ok (.aload_n 0, 1) := by decide +kernel
theorem d_LR_level_14 : decode b_LR_level 14 = .ok (.getfield 12, 3) := by decide +kernel
theorem d_LR_level_17 : decode b_LR_level 17 = .ok (.iload_n 1, 1) := by decide +kernel
theorem d_LR_level_18 : decode b_LR_level 18 = .ok (.iload_n 2, 1) := by decide +kernel
theorem d_LR_level_19 : decode b_LR_level 19 = .ok (.invokevirtual 47, 3) := by decide +kernel
theorem d_LR_level_22 : decode b_LR_level 22 = .ok (.ireturn, 1) := by decide +kernel
theorem d_LR_value_0 : decode b_LR_value 0 = .ok (.aload_n 0, 1) := by decide +kernel
theorem d_LR_value_1 : decode b_LR_value 1 = .ok (.getfield 12, 3) := by decide +kernel
theorem d_LR_value_4 : decode b_LR_value 4 = .ok (.iload_n 1, 1) := by decide +kernel
theorem d_LR_value_5 : decode b_LR_value 5 = .ok (.invokevirtual 43, 3) := by decide +kernel
theorem d_LR_value_8 : decode b_LR_value 8 = .ok (.ifCond .ne 5, 3) := by decide +kernel
theorem d_LR_value_11 : decode b_LR_value 11 = .ok (.iconst (-1), 1) := by decide +kernel
theorem d_LR_value_12 : decode b_LR_value 12 = .ok (.ireturn, 1) := by decide +kernel
theorem d_LR_value_13 : decode b_LR_value 13 = .ok (.aload_n 0, 1) := by decide +kernel
theorem d_LR_value_14 : decode b_LR_value 14 = .ok (.getfield 12, 3) := by decide +kernel
theorem d_LR_value_17 : decode b_LR_value 17 = .ok (.iload_n 1, 1) := by decide +kernel
theorem d_LR_value_18 : decode b_LR_value 18 = .ok (.lload_n 2, 1) := by decide +kernel
theorem d_LR_value_19 : decode b_LR_value 19 = .ok (.invokevirtual 54, 3) := by decide +kernel
theorem d_LR_value_22 : decode b_LR_value 22 = .ok (.ireturn, 1) := by decide +kernel
theorem d_LR_isSolved_0 : decode b_LR_isSolved 0 = .ok (.aload_n 0, 1) := by decide +kernel
theorem d_LR_isSolved_1 : decode b_LR_isSolved 1 = .ok (.getfield 28, 3) := by decide +kernel
theorem d_LR_isSolved_4 : decode b_LR_isSolved 4 = .ok (.invokevirtual 122, 3) := by decide +kernel
theorem d_LR_isSolved_7 : decode b_LR_isSolved 7 = .ok (.ireturn, 1) := by decide +kernel
theorem d_Nd_areSolved_0 : decode b_Nd_areSolved 0 = .ok (.aload_n 0, 1) := by decide +kernel
theorem d_Nd_areSolved_1 : decode b_Nd_areSolved 1 = .ok (.getfield 39, 3) := by decide +kernel
theorem d_Nd_areSolved_4 : decode b_Nd_areSolved 4 = .ok (.ifCond .ne 20, 3) := by decide +kernel
theorem d_Nd_areSolved_7 : decode b_Nd_areSolved 7 = .ok (.aload_n 0, 1) := by decide +kernel
theorem d_Nd_areSolved_8 : decode b_Nd_areSolved 8 = .ok (.invokevirtual 52, 3) := by decide +kernel
theorem d_Nd_areSolved_11 : decode b_Nd_areSolved 11 = .ok (.aload_n 0, 1) := by decide +kernel
theorem d_Nd_areSolved_12 : decode b_Nd_areSolved 12 = .ok (.aload_n 0, 1) := by decide +kernel
theorem d_Nd_areSolved_13 : decode b_Nd_areSolved 13 = .ok (.invokevirtual 55, 3) := by decide +kernel
theorem d_Nd_areSolved_16 : decode b_Nd_areSolved 16 = .ok (.putfield 35, 3) := by decide +kernel
theorem d_Nd_areSolved_19 : decode b_Nd_areSolved 19 = .ok (.aload_n 0, 1) := by decide +kernel
theorem d_Nd_areSolved_20 : decode b_Nd_areSolved 20 = .ok (.iconst 1, 1) := by decide +kernel
theorem d_Nd_areSolved_21 : decode b_Nd_areSolved 21 = .ok (.putfield 39, 3) := by decide +kernel
theorem d_Nd_areSolved_24 : decode b_Nd_areSolved 24 = .ok (.aload_n 0, 1) := by decide +kernel
theorem d_Nd_areSolved_25 : decode b_Nd_areSolved 25 = .ok (.getfield 35, 3) := by decide +kernel
theorem d_Nd_areSolved_28 : decode b_Nd_areSolved 28 = .ok (.ireturn, 1) := by decide +kernel
theorem d_Nd_keepAll_0 : decode b_Nd_keepAll 0 = .ok (.iconst 0, 1) := by decide +kernel
theorem d_Nd_keepAll_1 : decode b_Nd_keepAll 1 = .ok (.istore_n 1, 1) := by decide +kernel
theorem d_Nd_keepAll_2 : decode b_Nd_keepAll 2 = .ok (.iload_n 1, 1) := by decide +kernel
theorem d_Nd_keepAll_3 : decode b_Nd_keepAll 3 = .ok (.aload_n 0, 1) := by decide +kernel
theorem d_Nd_keepAll_4 : decode b_Nd_keepAll 4 = .ok (.getfield 32, 3) := by decide +kernel
theorem d_Nd_keepAll_7 : decode b_Nd_keepAll 7 = .ok (.if_icmp .ge 16, 3) := by decide +kernel
theorem d_Nd_keepAll_10 : decode b_Nd_keepAll 10 = .ok (.aload_n 0, 1) := by decide +kernel
theorem d_Nd_keepAll_11 : decode b_Nd_keepAll 11 = .ok (.getfield 21, 3) := by decide +kernel
theorem d_Nd_keepAll_14 : decode b_Nd_keepAll 14 = .ok (.iload_n 1, 1) := by decide +kernel
theorem d_Nd_keepAll_15 : decode b_Nd_keepAll 15 = .ok (.iconst 1, 1) := by decide +kernel
theorem d_Nd_keepAll_16 : decode b_Nd_keepAll 16 = .ok (.bastore, 1) := by decide +kernel
theorem d_Nd_keepAll_17 : decode b_Nd_keepAll 17 = .ok (.iinc 1 1, 3) := by decide +kernel
theorem d_Nd_keepAll_20 : decode b_Nd_keepAll 20 = .ok (.goto (-18), 3) := by decide +kernel
theorem d_Nd_keepAll_23 : decode b_Nd_keepAll 23 = .ok (.return_, 1) := by decide +kernel
theorem d_Nd_canKeptBeSolved_0 : decode b_Nd_canKeptBeSolved 0 = .ok (.aload_n 0, 1) := by decide +kernel
theorem d_Nd_canKeptBeSolved_1 : decode b_Nd_canKeptBeSolved 1 = .ok (.getfield 25, 3) := by decide +kernel
theorem d_Nd_canKeptBeSolved_4 : decode b_Nd_canKeptBeSolved 4 = .ok (.iconst 0, 1) := by decide +kernel
theorem d_Nd_canKeptBeSolved_5 : decode b_Nd_canKeptBeSolved 5 = .ok (.invokestatic 65, 3) := by decide +kernel
theorem d_Nd_canKeptBeSolved_8 : decode b_Nd_canKeptBeSolved 8 = .ok (.iconst 0, 1) := by decide +kernel
theorem d_Nd_canKeptBeSolved_9 : decode b_Nd_canKeptBeSolved 9 = .ok (.istore_n 1, 1) := by decide +kernel
theorem d_Nd_canKeptBeSolved_10 : decode b_Nd_canKeptBeSolved 10 = .ok (.iload_n 1, 1) := by decide +kernel
theorem d_Nd_canKeptBeSolved_11 : decode b_Nd_canKeptBeSolved 11 = .ok (.bipush 11, 2) := by decide +kernel
theorem d_Nd_canKeptBeSolved_13 : decode b_Nd_canKeptBeSolved 13 = .ok (.if_icmp .gt 30, 3) := by decide +kernel
theorem d_Nd_canKeptBeSolved_16 : decode b_Nd_canKeptBeSolved 16 = .ok (.aload_n 0, 1) := by decide +kernel
theorem d_Nd_canKeptBeSolved_17 : decode b_Nd_canKeptBeSolved 17 = .ok (.invokevirtual 71, 3) := by decide +kernel
theorem d_Nd_canKeptBeSolved_20 : decode b_Nd_canKeptBeSolved 20 = .ok (.ifCond .ne 5, 3) := by decide +kernel
theorem d_Nd_canKeptBeSolved_23 : decode b_Nd_canKeptBeSolved 23 = .ok (.iconst 1, 1) := by decide +kernel
theorem d_Nd_canKeptBeSolved_24 : decode b_Nd_canKeptBeSolved 24 = .ok (.ireturn, 1) := by decide +kernel
theorem d_Nd_canKeptBeSolved_25 : decode b_Nd_canKeptBeSolved 25 = .ok (.aload_n 0, 1) := by decide +kernel
theorem d_Nd_canKeptBeSolved_26 : decode b_Nd_canKeptBeSolved 26 = .ok (.getfield 25, 3) := by decide +kernel
theorem d_Nd_canKeptBeSolved_29 : decode b_Nd_canKeptBeSolved 29 = .ok (.bipush 10, 2) := by decide +kernel
theorem d_Nd_canKeptBeSolved_31 : decode b_Nd_canKeptBeSolved 31 = .ok (.iaload, 1) := by decide +kernel
theorem d_Nd_canKeptBeSolved_32 : decode b_Nd_canKeptBeSolved 32 = .ok (.ifCond .le 5, 3) := by decide +kernel
theorem d_Nd_canKeptBeSolved_35 : decode b_Nd_canKeptBeSolved 35 = .ok (.iconst 0, 1) := by decide +kernel
theorem d_Nd_canKeptBeSolved_36 : decode b_Nd_canKeptBeSolved 36 = .ok (.ireturn, 1) := by decide +kernel
theorem d_Nd_canKeptBeSolved_37 : decode b_Nd_canKeptBeSolved 37 = .ok (.iinc 1 1, 3) := by decide +kernel
theorem d_Nd_canKeptBeSolved_40 : decode b_Nd_canKeptBeSolved 40 = .ok (.goto (-30), 3) := by decide +kernel
theorem d_Nd_canKeptBeSolved_43 : decode b_Nd_canKeptBeSolved 43 = .ok (.iconst 0, 1) := by decide +kernel
theorem d_Nd_canKeptBeSolved_44 : decode b_Nd_canKeptBeSolved 44 = .ok (.ireturn, 1) := by decide +kernel
theorem d_Nd_raiseNumbers_0 : decode b_Nd_raiseNumbers 0 = .ok (.iconst 0, 1) := by decide +kernel
theorem d_Nd_raiseNumbers_1 : decode b_Nd_raiseNumbers 1 = .ok (.istore_n 1, 1) := by decide +kernel
theorem d_Nd_raiseNumbers_2 : decode b_Nd_raiseNumbers 2 = .ok (.iconst 0, 1) := by decide +kernel
theorem d_Nd_raiseNumbers_3 : decode b_Nd_raiseNumbers 3 = .ok (.istore_n 2, 1) := by decide +kernel
theorem d_Nd_raiseNumbers_4 : decode b_Nd_raiseNumbers 4 = .ok (.iload_n 2, 1) := by decide +kernel
theorem d_Nd_raiseNumbers_5 : decode b_Nd_raiseNumbers 5 = .ok (.aload_n 0, 1) := by decide +kernel
theorem d_Nd_raiseNumbers_6 : decode b_Nd_raiseNumbers 6 = .ok (.getfield 32, 3) := by decide +kernel
theorem d_Nd_raiseNumbers_9 : decode b_Nd_raiseNumbers 9 = .ok (.if_icmp .ge 66, 3) := by decide +kernel
theorem d_Nd_raiseNumbers_12 : decode b_Nd_raiseNumbers 12 = .ok (.aload_n 0, 1) := by decide +kernel
theorem d_Nd_raiseNumbers_13 : decode b_Nd_raiseNumbers 13 = .ok (.getfield 25, 3) := by decide +kernel
theorem d_Nd_raiseNumbers_16 : decode b_Nd_raiseNumbers 16 = .ok (.aload_n 0, 1) := by decide +kernel
theorem d_Nd_raiseNumbers_17 : decode b_Nd_raiseNumbers 17 = .ok (.getfield 9, 3) := by decide +kernel
theorem d_Nd_raiseNumbers_20 : decode b_Nd_raiseNumbers 20 = .ok (.iload_n 2, 1) := by decide +kernel
theorem d_Nd_raiseNumbers_21 : decode b_Nd_raiseNumbers 21 = .ok (.iaload, 1) := by decide +kernel
theorem d_Nd_raiseNumbers_22 : decode b_Nd_raiseNumbers 22 = .ok (.iaload, 1) := by decide +kernel
theorem d_Nd_raiseNumbers_23 : decode b_Nd_raiseNumbers 23 = .ok (.aload_n 0, 1) := by decide +kernel
theorem d_Nd_raiseNumbers_24 : decode b_Nd_raiseNumbers 24 = .ok (.getfield 15, 3) := by decide +kernel
theorem d_Nd_raiseNumbers_27 : decode b_Nd_raiseNumbers 27 = .ok (.iload_n 2, 1) := by decide +kernel
theorem d_Nd_raiseNumbers_28 : decode b_Nd_raiseNumbers 28 = .ok (.iaload, 1) := by decide +kernel
theorem d_Nd_raiseNumbers_29 : decode b_Nd_raiseNumbers 29 = .ok (.iadd, 1) := by decide +kernel
theorem d_Nd_raiseNumbers_30 : decode b_Nd_raiseNumbers 30 = .ok (.istore_n 3, 1) := by decide +kernel
theorem d_Nd_raiseNumbers_31 : decode b_Nd_raiseNumbers 31 = .ok (.aload_n 0, 1) := by decide +kernel
theorem d_Nd_raiseNumbers_32 : decode b_Nd_raiseNumbers 32 = .ok (.getfield 21, 3) := by decide +kernel
theorem d_Nd_raiseNumbers_35 : decode b_Nd_raiseNumbers 35 = .ok (.iload_n 2, 1) := by decide +kernel
theorem d_Nd_raiseNumbers_36 : decode b_Nd_raiseNumbers 36 = .ok (.baload, 1) := by decide +kernel
theorem d_Nd_raiseNumbers_37 : decode b_Nd_raiseNumbers 37 = .ok (.ifCond .eq 32, 3) := by decide +kernel
theorem d_Nd_raiseNumbers_40 : decode b_Nd_raiseNumbers 40 = .ok (.iload_n 3, 1) := by decide +kernel
theorem d_Nd_raiseNumbers_41 : decode b_Nd_raiseNumbers 41 = .ok (.aload_n 0, 1) := by decide +kernel
theorem d_Nd_raiseNumbers_42 : decode b_Nd_raiseNumbers 42 = .ok (.getfield 25, 3) := by decide +kernel
theorem d_Nd_raiseNumbers_45 : decode b_Nd_raiseNumbers 45 = .ok (.aload_n 0, 1) := by decide +kernel
theorem d_Nd_raiseNumbers_46 : decode b_Nd_raiseNumbers 46 = .ok (.getfield 18, 3) := by decide +kernel
theorem d_Nd_raiseNumbers_49 : decode b_Nd_raiseNumbers 49 = .ok (.iload_n 2, 1) := by decide +kernel
theorem d_Nd_raiseNumbers_50 : decode b_Nd_raiseNumbers 50 = .ok (.iaload, 1) := by decide +kernel
theorem d_Nd_raiseNumbers_51 : decode b_Nd_raiseNumbers 51 = .ok (.iaload, 1) := by decide +kernel
theorem d_Nd_raiseNumbers_52 : decode b_Nd_raiseNumbers 52 = .ok (.if_icmp .le 17, 3) := by decide +kernel
theorem d_Nd_raiseNumbers_55 : decode b_Nd_raiseNumbers 55 = .ok (.aload_n 0, 1) := by decide +kernel
theorem d_Nd_raiseNumbers_56 : decode b_Nd_raiseNumbers 56 = .ok (.getfield 25, 3) := by decide +kernel
theorem d_Nd_raiseNumbers_59 : decode b_Nd_raiseNumbers 59 = .ok (.aload_n 0, 1) := by decide +kernel
theorem d_Nd_raiseNumbers_60 : decode b_Nd_raiseNumbers 60 = .ok (.getfield 18, 3) := by decide +kernel
theorem d_Nd_raiseNumbers_63 : decode b_Nd_raiseNumbers 63 = .ok (.iload_n 2, 1) := by decide +kernel
theorem d_Nd_raiseNumbers_64 : decode b_Nd_raiseNumbers 64 = .ok (.iaload, 1) := by decide +kernel
theorem d_Nd_raiseNumbers_65 : decode b_Nd_raiseNumbers 65 = .ok (.iload_n 3, 1) := by decide +kernel
theorem d_Nd_raiseNumbers_66 : decode b_Nd_raiseNumbers 66 = .ok (.iastore, 1) := by decide +kernel
theorem d_Nd_raiseNumbers_67 : decode b_Nd_raiseNumbers 67 = .ok (.iconst 1, 1) := by decide +kernel
theorem d_Nd_raiseNumbers_68 : decode b_Nd_raiseNumbers 68 = .ok (.istore_n 1, 1) := by decide +kernel
theorem d_Nd_raiseNumbers_69 : decode b_Nd_raiseNumbers 69 = .ok (.iinc 2 1, 3) := by decide +kernel
theorem d_Nd_raiseNumbers_72 : decode b_Nd_raiseNumbers 72 = .ok (.goto (-68), 3) := by decide +kernel
theorem d_Nd_raiseNumbers_75 : decode b_Nd_raiseNumbers 75 = .ok (.iload_n 1, 1) := by decide +kernel
theorem d_Nd_raiseNumbers_76 : decode b_Nd_raiseNumbers 76 = .ok (.ireturn, 1) := by decide +kernel
theorem d_LR_solution_0 : decode b_LR_solution 0 = .ok (.aload_n 0, 1) := by decide +kernel
theorem d_LR_solution_1 : decode b_LR_solution 1 = .ok (.getfield 28, 3) := by decide +kernel
theorem d_LR_solution_4 : decode b_LR_solution 4 = .ok (.iload_n 1, 1) := by decide +kernel
theorem d_LR_solution_5 : decode b_LR_solution 5 = .ok (.invokevirtual 126, 3) := by decide +kernel
theorem d_LR_solution_8 : decode b_LR_solution 8 = .ok (.ireturn, 1) := by decide +kernel
theorem d_Nd_leastNumber_0 : decode b_Nd_leastNumber 0 = .ok (.aload_n 0, 1) := by decide +kernel
theorem d_Nd_leastNumber_1 : decode b_Nd_leastNumber 1 = .ok (.iload_n 1, 1) := by decide +kernel
theorem d_Nd_leastNumber_2 : decode b_Nd_leastNumber 2 = .ok (.invokevirtual 45, 3) := by decide +kernel
theorem d_Nd_leastNumber_5 : decode b_Nd_leastNumber 5 = .ok (.ifCond .eq 19, 3) := by decide +kernel
theorem d_Nd_leastNumber_8 : decode b_Nd_leastNumber 8 = .ok (.aload_n 0, 1) := by decide +kernel
theorem d_Nd_leastNumber_9 : decode b_Nd_leastNumber 9 = .ok (.invokevirtual 59, 3) := by decide +kernel
theorem d_Nd_leastNumber_12 : decode b_Nd_leastNumber 12 = .ok (.ifCond .eq 12, 3) := by decide +kernel
theorem d_Nd_leastNumber_15 : decode b_Nd_leastNumber 15 = .ok (.aload_n 0, 1) := by decide +kernel
theorem d_Nd_leastNumber_16 : decode b_Nd_leastNumber 16 = .ok (.getfield 25, 3) := by decide +kernel
theorem d_Nd_leastNumber_19 : decode b_Nd_leastNumber 19 = .ok (.iload_n 1, 1) := by decide +kernel
theorem d_Nd_leastNumber_20 : decode b_Nd_leastNumber 20 = .ok (.iaload, 1) := by decide +kernel
theorem d_Nd_leastNumber_21 : decode b_Nd_leastNumber 21 = .ok (.goto 4, 3) := by decide +kernel
theorem d_Nd_leastNumber_24 : decode b_Nd_leastNumber 24 = .ok (.iconst (-1), 1) := by decide +kernel
theorem d_Nd_leastNumber_25 : decode b_Nd_leastNumber 25 = .ok (.ireturn, 1) := by decide +kernel
theorem d_Nd_isUnknown_0 : decode b_Nd_isUnknown 0 = .ok (.iload_n 1, 1) := by decide +kernel
theorem d_Nd_isUnknown_1 : decode b_Nd_isUnknown 1 = .ok (.ifCond .lt 15, 3) := by decide +kernel
theorem d_Nd_isUnknown_4 : decode b_Nd_isUnknown 4 = .ok (.iload_n 1, 1) := by decide +kernel
theorem d_Nd_isUnknown_5 : decode b_Nd_isUnknown 5 = .ok (.aload_n 0, 1) := by decide +kernel
theorem d_Nd_isUnknown_6 : decode b_Nd_isUnknown 6 = .ok (.getfield 28, 3) := by decide +kernel
theorem d_Nd_isUnknown_9 : decode b_Nd_isUnknown 9 = .ok (.if_icmp .ge 7, 3) := by decide +kernel
theorem d_Nd_isUnknown_12 : decode b_Nd_isUnknown 12 = .ok (.iconst 1, 1) := by decide +kernel
theorem d_Nd_isUnknown_13 : decode b_Nd_isUnknown 13 = .ok (.goto 4, 3) := by decide +kernel
theorem d_Nd_isUnknown_16 : decode b_Nd_isUnknown 16 = .ok (.iconst 0, 1) := by decide +kernel
theorem d_Nd_isUnknown_17 : decode b_Nd_isUnknown 17 = .ok (.ireturn, 1) := by decide +kernel
theorem d_LR_isClash_0 : decode b_LR_isClash 0 = .ok (.aload_n 0, 1) := by decide +kernel
theorem d_LR_isClash_1 : decode b_LR_isClash 1 = .ok (.getfield 28, 3) := by decide +kernel
theorem d_LR_isClash_4 : decode b_LR_isClash 4 = .ok (.iload_n 1, 1) := by decide +kernel
theorem d_LR_isClash_5 : decode b_LR_isClash 5 = .ok (.invokevirtual 129, 3) := by decide +kernel
theorem d_LR_isClash_8 : decode b_LR_isClash 8 = .ok (.ireturn, 1) := by decide +kernel
theorem d_Nd_isInClash_0 : decode b_Nd_isInClash 0 = .ok (.iload_n 1, 1) := by decide +kernel
theorem d_Nd_isInClash_1 : decode b_Nd_isInClash 1 = .ok (.ifCond .lt 18, 3) := by decide +kernel
theorem d_Nd_isInClash_4 : decode b_Nd_isInClash 4 = .ok (.iload_n 1, 1) := by decide +kernel
theorem d_Nd_isInClash_5 : decode b_Nd_isInClash 5 = .ok (.aload_n 0, 1) := by decide +kernel
theorem d_Nd_isInClash_6 : decode b_Nd_isInClash 6 = .ok (.getfield 32, 3) := by decide +kernel
theorem d_Nd_isInClash_9 : decode b_Nd_isInClash 9 = .ok (.if_icmp .ge 10, 3) := by decide +kernel
theorem d_Nd_isInClash_12 : decode b_Nd_isInClash 12 = .ok (.aload_n 0, 1) := by decide +kernel
theorem d_Nd_isInClash_13 : decode b_Nd_isInClash 13 = .ok (.invokevirtual 59, 3) := by decide +kernel
theorem d_Nd_isInClash_16 : decode b_Nd_isInClash 16 = .ok (.ifCond .eq 5, 3) := by decide +kernel
theorem d_Nd_isInClash_19 : decode b_Nd_isInClash 19 = .ok (.iconst 0, 1) := by decide +kernel
theorem d_Nd_isInClash_20 : decode b_Nd_isInClash 20 = .ok (.ireturn, 1) := by decide +kernel
theorem d_Nd_isInClash_21 : decode b_Nd_isInClash 21 = .ok (.aload_n 0, 1) := by decide +kernel
theorem d_Nd_isInClash_22 : decode b_Nd_isInClash 22 = .ok (.getfield 42, 3) := by decide +kernel
theorem d_Nd_isInClash_25 : decode b_Nd_isInClash 25 = .ok (.ifCond .ne 12, 3) := by decide +kernel
theorem d_Nd_isInClash_28 : decode b_Nd_isInClash 28 = .ok (.aload_n 0, 1) := by decide +kernel
theorem d_Nd_isInClash_29 : decode b_Nd_isInClash 29 = .ok (.invokevirtual 62, 3) := by decide +kernel
theorem d_Nd_isInClash_32 : decode b_Nd_isInClash 32 = .ok (.aload_n 0, 1) := by decide +kernel
theorem d_Nd_isInClash_33 : decode b_Nd_isInClash 33 = .ok (.iconst 1, 1) := by decide +kernel
theorem d_Nd_isInClash_34 : decode b_Nd_isInClash 34 = .ok (.putfield 42, 3) := by decide +kernel
theorem d_Nd_isInClash_37 : decode b_Nd_isInClash 37 = .ok (.aload_n 0, 1) := by decide +kernel
theorem d_Nd_isInClash_38 : decode b_Nd_isInClash 38 = .ok (.getfield 21, 3) := by decide +kernel
theorem d_Nd_isInClash_41 : decode b_Nd_isInClash 41 = .ok (.iload_n 1, 1) := by decide +kernel
theorem d_Nd_isInClash_42 : decode b_Nd_isInClash 42 = .ok (.baload, 1) := by decide +kernel
theorem d_Nd_isInClash_43 : decode b_Nd_isInClash 43 = .ok (.ireturn, 1) := by decide +kernel
theorem d_Nd_keepClashOnly_0 : decode b_Nd_keepClashOnly 0 = .ok (.aload_n 0, 1) := by decide +kernel
theorem d_Nd_keepClashOnly_1 : decode b_Nd_keepClashOnly 1 = .ok (.getfield 32, 3) := by decide +kernel
theorem d_Nd_keepClashOnly_4 : decode b_Nd_keepClashOnly 4 = .ok (.iconst 1, 1) := by decide +kernel
theorem d_Nd_keepClashOnly_5 : decode b_Nd_keepClashOnly 5 = .ok (.isub, 1) := by decide +kernel
theorem d_Nd_keepClashOnly_6 : decode b_Nd_keepClashOnly 6 = .ok (.istore_n 1, 1) := by decide +kernel
theorem d_Nd_keepClashOnly_7 : decode b_Nd_keepClashOnly 7 = .ok (.iload_n 1, 1) := by decide +kernel
theorem d_Nd_keepClashOnly_8 : decode b_Nd_keepClashOnly 8 = .ok (.ifCond .lt 26, 3) := by decide +kernel
theorem d_Nd_keepClashOnly_11 : decode b_Nd_keepClashOnly 11 = .ok (.aload_n 0, 1) := by decide +kernel
theorem d_Nd_keepClashOnly_12 : decode b_Nd_keepClashOnly 12 = .ok (.getfield 21, 3) := by decide +kernel
theorem d_Nd_keepClashOnly_15 : decode b_Nd_keepClashOnly 15 = .ok (.iload_n 1, 1) := by decide +kernel
theorem d_Nd_keepClashOnly_16 : decode b_Nd_keepClashOnly 16 = .ok (.iconst 0, 1) := by decide +kernel
theorem d_Nd_keepClashOnly_17 : decode b_Nd_keepClashOnly 17 = .ok (.bastore, 1) := by decide +kernel
theorem d_Nd_keepClashOnly_18 : decode b_Nd_keepClashOnly 18 = .ok (.aload_n 0, 1) := by decide +kernel
theorem d_Nd_keepClashOnly_19 : decode b_Nd_keepClashOnly 19 = .ok (.getfield 21, 3) := by decide +kernel
theorem d_Nd_keepClashOnly_22 : decode b_Nd_keepClashOnly 22 = .ok (.iload_n 1, 1) := by decide +kernel
theorem d_Nd_keepClashOnly_23 : decode b_Nd_keepClashOnly 23 = .ok (.aload_n 0, 1) := by decide +kernel
theorem d_Nd_keepClashOnly_24 : decode b_Nd_keepClashOnly 24 = .ok (.invokevirtual 55, 3) := by decide +kernel
theorem d_Nd_keepClashOnly_27 : decode b_Nd_keepClashOnly 27 = .ok (.bastore, 1) := by decide +kernel
theorem d_Nd_keepClashOnly_28 : decode b_Nd_keepClashOnly 28 = .ok (.iinc 1 (-1), 3) := by decide +kernel
theorem d_Nd_keepClashOnly_31 : decode b_Nd_keepClashOnly 31 = .ok (.goto (-24), 3) := by decide +kernel
theorem d_Nd_keepClashOnly_34 : decode b_Nd_keepClashOnly 34 = .ok (.return_, 1) := by decide +kernel
theorem d_LR_undo_0 : decode b_LR_undo 0 = .ok (.aload_n 0, 1) := by decide +kernel
theorem d_LR_undo_1 : decode b_LR_undo 1 = .ok (.getfield 28, 3) := by decide +kernel
theorem d_LR_undo_4 : decode b_LR_undo 4 = .ok (.invokevirtual 132, 3) := by decide +kernel
theorem d_LR_undo_7 : decode b_LR_undo 7 = .ok (.ireturn, 1) := by decide +kernel
theorem d_Nd_removeLatest_0 : decode b_Nd_removeLatest 0 = .ok (.aload_n 0, 1) := by decide +kernel
theorem d_Nd_removeLatest_1 : decode b_Nd_removeLatest 1 = .ok (.getfield 32, 3) := by decide +kernel
theorem d_Nd_removeLatest_4 : decode b_Nd_removeLatest 4 = .ok (.ifCond .ne 5, 3) := by decide +kernel
theorem d_Nd_removeLatest_7 : decode b_Nd_removeLatest 7 = .ok (.iconst 0, 1) := by decide +kernel
theorem d_Nd_removeLatest_8 : decode b_Nd_removeLatest 8 = .ok (.ireturn, 1) := by decide +kernel
theorem d_Nd_removeLatest_9 : decode b_Nd_removeLatest 9 = .ok (.aload_n 0, 1) := by decide +kernel
theorem d_Nd_removeLatest_10 : decode b_Nd_removeLatest 10 = .ok (.dup, 1) := by decide +kernel
theorem d_Nd_removeLatest_11 : decode b_Nd_removeLatest 11 = .ok (.getfield 32, 3) := by decide +kernel
theorem d_Nd_removeLatest_14 : decode b_Nd_removeLatest 14 = .ok (.iconst 1, 1) := by decide +kernel
theorem d_Nd_removeLatest_15 : decode b_Nd_removeLatest 15 = .ok (.isub, 1) := by decide +kernel
theorem d_Nd_removeLatest_16 : decode b_Nd_removeLatest 16 = .ok (.putfield 32, 3) := by decide +kernel
theorem d_Nd_removeLatest_19 : decode b_Nd_removeLatest 19 = .ok (.aload_n 0, 1) := by decide +kernel
theorem d_Nd_removeLatest_20 : decode b_Nd_removeLatest 20 = .ok (.invokevirtual 49, 3) := by decide +kernel
theorem d_Nd_removeLatest_23 : decode b_Nd_removeLatest 23 = .ok (.iconst 1, 1) := by decide +kernel
theorem d_Nd_removeLatest_24 : decode b_Nd_removeLatest 24 = .ok (.ireturn, 1) := by decide +kernel
theorem d_Nd_forget_0 : decode b_Nd_forget 0 = .ok (.aload_n 0, 1) := by decide +kernel
theorem d_Nd_forget_1 : decode b_Nd_forget 1 = .ok (.iconst 0, 1) := by decide +kernel
theorem d_Nd_forget_2 : decode b_Nd_forget 2 = .ok (.putfield 39, 3) := by decide +kernel
theorem d_Nd_forget_5 : decode b_Nd_forget 5 = .ok (.aload_n 0, 1) := by decide +kernel
theorem d_Nd_forget_6 : decode b_Nd_forget 6 = .ok (.iconst 0, 1) := by decide +kernel
theorem d_Nd_forget_7 : decode b_Nd_forget 7 = .ok (.putfield 42, 3) := by decide +kernel
theorem d_Nd_forget_10 : decode b_Nd_forget 10 = .ok (.return_, 1) := by decide +kernel
theorem d_LR_about_0 : decode b_LR_about 0 = .ok (.iload_n 1, 1) := by decide +kernel
theorem d_LR_about_1 : decode b_LR_about 1 = .ok (.tableswitch 51 0 2 #[27, 35, 43], 27) := by decide +kernel
theorem d_LR_about_28 : decode b_LR_about 28 = .ok (.aload_n 0, 1) := by decide +kernel
theorem d_LR_about_29 : decode b_LR_about 29 = .ok (.getfield 12, 3) := by decide +kernel
theorem d_LR_about_32 : decode b_LR_about 32 = .ok (.invokevirtual 135, 3) := by decide +kernel
theorem d_LR_about_35 : decode b_LR_about 35 = .ok (.ireturn, 1) := by decide +kernel
theorem d_LR_about_36 : decode b_LR_about 36 = .ok (.aload_n 0, 1) := by decide +kernel
theorem d_LR_about_37 : decode b_LR_about 37 = .ok (.getfield 28, 3) := by decide +kernel
theorem d_LR_about_40 : decode b_LR_about 40 = .ok (.invokevirtual 92, 3) := by decide +kernel
theorem d_LR_about_43 : decode b_LR_about 43 = .ok (.ireturn, 1) := by decide +kernel
theorem d_LR_about_44 : decode b_LR_about 44 = .ok (.aload_n 0, 1) := by decide +kernel
theorem d_LR_about_45 : decode b_LR_about 45 = .ok (.getfield 28, 3) := by decide +kernel
theorem d_LR_about_48 : decode b_LR_about 48 = .ok (.invokevirtual 114, 3) := by decide +kernel
theorem d_LR_about_51 : decode b_LR_about 51 = .ok (.ireturn, 1) := by decide +kernel
theorem d_LR_about_52 : decode b_LR_about 52 = .ok (.iconst (-1), 1) := by decide +kernel
theorem d_LR_about_53 : decode b_LR_about 53 = .ok (.ireturn, 1) := by decide +kernel
theorem d_Nd_unknowns_0 : decode b_Nd_unknowns 0 = .ok (.aload_n 0, 1) := by decide +kernel
theorem d_Nd_unknowns_1 : decode b_Nd_unknowns 1 = .ok (.getfield 28, 3) := by decide +kernel
theorem d_Nd_unknowns_4 : decode b_Nd_unknowns 4 = .ok (.ireturn, 1) := by decide +kernel
theorem d_Nd_size_0 : decode b_Nd_size 0 = .ok (.aload_n 0, 1) := by decide +kernel
theorem d_Nd_size_1 : decode b_Nd_size 1 = .ok (.getfield 32, 3) := by decide +kernel
theorem d_Nd_size_4 : decode b_Nd_size 4 = .ok (.ireturn, 1) := by decide +kernel
theorem d_LR_zero_0 : decode b_LR_zero 0 = .ok (.aload_n 0, 1) := by decide +kernel
theorem d_LR_zero_1 : decode b_LR_zero 1 = .ok (.getfield 12, 3) := by decide +kernel
theorem d_LR_zero_4 : decode b_LR_zero 4 = .ok (.iconst 0, 1) := by decide +kernel
theorem d_LR_zero_5 : decode b_LR_zero 5 = .ok (.iconst (-1), 1) := by decide +kernel
theorem d_LR_zero_6 : decode b_LR_zero 6 = .ok (.iconst (-1), 1) := by decide +kernel
theorem d_LR_zero_7 : decode b_LR_zero 7 = .ok (.invokevirtual 32, 3) := by decide +kernel
theorem d_LR_zero_10 : decode b_LR_zero 10 = .ok (.ireturn, 1) := by decide +kernel
theorem d_LR_parameter_0 : decode b_LR_parameter 0 = .ok (.iload_n 1, 1) := by decide +kernel
theorem d_LR_parameter_1 : decode b_LR_parameter 1 = .ok (.invokestatic 36, 3) := by decide +kernel
theorem d_LR_parameter_4 : decode b_LR_parameter 4 = .ok (.aload_n 0, 1) := by decide +kernel
theorem d_LR_parameter_5 : decode b_LR_parameter 5 = .ok (.getfield 12, 3) := by decide +kernel
theorem d_LR_parameter_8 : decode b_LR_parameter 8 = .ok (.iconst 1, 1) := by decide +kernel
theorem d_LR_parameter_9 : decode b_LR_parameter 9 = .ok (.iload_n 1, 1) := by decide +kernel
theorem d_LR_parameter_10 : decode b_LR_parameter 10 = .ok (.iconst (-1), 1) := by decide +kernel
theorem d_LR_parameter_11 : decode b_LR_parameter 11 = .ok (.invokevirtual 32, 3) := by decide +kernel
theorem d_LR_parameter_14 : decode b_LR_parameter 14 = .ok (.ireturn, 1) := by decide +kernel
theorem d_LR_checkParameter_0 : decode b_LR_checkParameter 0 = .ok (.iload_n 0, 1) := by decide +kernel
theorem d_LR_checkParameter_1 : decode b_LR_checkParameter 1 = .ok (.ifCond .lt 8, 3) := by decide +kernel
theorem d_LR_checkParameter_4 : decode b_LR_checkParameter 4 = .ok (.iload_n 0, 1) := by decide +kernel
theorem d_LR_checkParameter_5 : decode b_LR_checkParameter 5 = .ok (.iconst 5, 1) := by decide +kernel
theorem d_LR_checkParameter_6 : decode b_LR_checkParameter 6 = .ok (.if_icmp .lt 13, 3) := by decide +kernel
theorem d_LR_checkParameter_9 : decode b_LR_checkParameter 9 = .ok (.new 58, 3) := by decide +kernel
theorem d_LR_checkParameter_12 : decode b_LR_checkParameter 12 = .ok (.dup, 1) := by decide +kernel
theorem d_LR_checkParameter_13 : decode b_LR_checkParameter 13 = .ok (.ldc 138, 2) := by decide +kernel
theorem d_LR_checkParameter_15 : decode b_LR_checkParameter 15 = .ok (.invokespecial 62, 3) := by decide +kernel
theorem d_LR_checkParameter_18 : decode b_LR_checkParameter 18 = .ok (.athrow, 1) := by decide +kernel
theorem d_LR_checkParameter_19 : decode b_LR_checkParameter 19 = .ok (.return_, 1) := by decide +kernel
theorem d_LR_next_0 : decode b_LR_next 0 = .ok (.aload_n 0, 1) := by decide +kernel
theorem d_LR_next_1 : decode b_LR_next 1 = .ok (.iload_n 1, 1) := by decide +kernel
theorem d_LR_next_2 : decode b_LR_next 2 = .ok (.invokevirtual 40, 3) := by decide +kernel
theorem d_LR_next_5 : decode b_LR_next 5 = .ok (.aload_n 0, 1) := by decide +kernel
theorem d_LR_next_6 : decode b_LR_next 6 = .ok (.getfield 12, 3) := by decide +kernel
theorem d_LR_next_9 : decode b_LR_next 9 = .ok (.iconst 2, 1) := by decide +kernel
theorem d_LR_next_10 : decode b_LR_next 10 = .ok (.iload_n 1, 1) := by decide +kernel
theorem d_LR_next_11 : decode b_LR_next 11 = .ok (.iconst (-1), 1) := by decide +kernel
theorem d_LR_next_12 : decode b_LR_next 12 = .ok (.invokevirtual 32, 3) := by decide +kernel
theorem d_LR_next_15 : decode b_LR_next 15 = .ok (.ireturn, 1) := by decide +kernel
theorem d_LR_checkLevel_0 : decode b_LR_checkLevel 0 = .ok (.aload_n 0, 1) := by decide +kernel
theorem d_LR_checkLevel_1 : decode b_LR_checkLevel 1 = .ok (.getfield 12, 3) := by decide +kernel
theorem d_LR_checkLevel_4 : decode b_LR_checkLevel 4 = .ok (.iload_n 1, 1) := by decide +kernel
theorem d_LR_checkLevel_5 : decode b_LR_checkLevel 5 = .ok (.invokevirtual 43, 3) := by decide +kernel
theorem d_LR_checkLevel_8 : decode b_LR_checkLevel 8 = .ok (.ifCond .ne 13, 3) := by decide +kernel
theorem d_LR_checkLevel_11 : decode b_LR_checkLevel 11 = .ok (.new 58, 3) := by decide +kernel
theorem d_LR_checkLevel_14 : decode b_LR_checkLevel 14 = .ok (.dup, 1) := by decide +kernel
theorem d_LR_checkLevel_15 : decode b_LR_checkLevel 15 = .ok (.ldc 136, 2) := by decide +kernel
theorem d_LR_checkLevel_17 : decode b_LR_checkLevel 17 = .ok (.invokespecial 62, 3) := by decide +kernel
theorem d_LR_checkLevel_20 : decode b_LR_checkLevel 20 = .ok (.athrow, 1) := by decide +kernel
theorem d_LR_checkLevel_21 : decode b_LR_checkLevel 21 = .ok (.return_, 1) := by decide +kernel
theorem d_LR_join_0 : decode b_LR_join 0 = .ok (.aload_n 0, 1) := by decide +kernel
theorem d_LR_join_1 : decode b_LR_join 1 = .ok (.iload_n 1, 1) := by decide +kernel
theorem d_LR_join_2 : decode b_LR_join 2 = .ok (.invokevirtual 40, 3) := by decide +kernel
theorem d_LR_join_5 : decode b_LR_join 5 = .ok (.aload_n 0, 1) := by decide +kernel
theorem d_LR_join_6 : decode b_LR_join 6 = .ok (.iload_n 2, 1) := by decide +kernel
theorem d_LR_join_7 : decode b_LR_join 7 = .ok (.invokevirtual 40, 3) := by decide +kernel
theorem d_LR_join_10 : decode b_LR_join 10 = .ok (.aload_n 0, 1) := by decide +kernel
theorem d_LR_join_11 : decode b_LR_join 11 = .ok (.getfield 12, 3) := by decide +kernel
theorem d_LR_join_14 : decode b_LR_join 14 = .ok (.iload_n 3, 1) := by decide +kernel
theorem d_LR_join_15 : decode b_LR_join 15 = .ok (.ifCond .eq 7, 3) := by decide +kernel
theorem d_LR_join_18 : decode b_LR_join 18 = .ok (.iconst 4, 1) := by decide +kernel
theorem d_LR_join_19 : decode b_LR_join 19 = .ok (.goto 4, 3) := by decide +kernel
theorem d_LR_join_22 : decode b_LR_join 22 = .ok (.iconst 3, 1) := by decide +kernel
theorem d_LR_join_23 : decode b_LR_join 23 = .ok (.iload_n 1, 1) := by decide +kernel
theorem d_LR_join_24 : decode b_LR_join 24 = .ok (.iload_n 2, 1) := by decide +kernel
theorem d_LR_join_25 : decode b_LR_join 25 = .ok (.invokevirtual 32, 3) := by decide +kernel
theorem d_LR_join_28 : decode b_LR_join 28 = .ok (.ireturn, 1) := by decide +kernel
theorem d_LR_put_0 : decode b_LR_put 0 = .ok (.aload_n 0, 1) := by decide +kernel
theorem d_LR_put_1 : decode b_LR_put 1 = .ok (.iload_n 1, 1) := by decide +kernel
theorem d_LR_put_2 : decode b_LR_put 2 = .ok (.invokevirtual 40, 3) := by decide +kernel
theorem d_LR_put_5 : decode b_LR_put 5 = .ok (.iload_n 2, 1) := by decide +kernel
theorem d_LR_put_6 : decode b_LR_put 6 = .ok (.invokestatic 36, 3) := by decide +kernel
theorem d_LR_put_9 : decode b_LR_put 9 = .ok (.aload_n 0, 1) := by decide +kernel
theorem d_LR_put_10 : decode b_LR_put 10 = .ok (.iload_n 3, 1) := by decide +kernel
theorem d_LR_put_11 : decode b_LR_put 11 = .ok (.invokevirtual 40, 3) := by decide +kernel
theorem d_LR_put_14 : decode b_LR_put 14 = .ok (.aload_n 0, 1) := by decide +kernel
theorem d_LR_put_15 : decode b_LR_put 15 = .ok (.getfield 21, 3) := by decide +kernel
theorem d_LR_put_18 : decode b_LR_put 18 = .ok (.iload_n 1, 1) := by decide +kernel
theorem d_LR_put_19 : decode b_LR_put 19 = .ok (.iload_n 2, 1) := by decide +kernel
theorem d_LR_put_20 : decode b_LR_put 20 = .ok (.iload_n 3, 1) := by decide +kernel
theorem d_LR_put_21 : decode b_LR_put 21 = .ok (.invokevirtual 51, 3) := by decide +kernel
theorem d_LR_put_24 : decode b_LR_put 24 = .ok (.ireturn, 1) := by decide +kernel
theorem d_Rp_replaced_0 : decode b_Rp_replaced 0 = .ok (.iconst 0, 1) := by decide +kernel
theorem d_Rp_replaced_1 : decode b_Rp_replaced 1 = .ok (.istore 4, 2) := by decide +kernel
theorem d_Rp_replaced_3 : decode b_Rp_replaced 3 = .ok (.iload 4, 2) := by decide +kernel
theorem d_Rp_replaced_5 : decode b_Rp_replaced 5 = .ok (.iload_n 1, 1) := by decide +kernel
theorem d_Rp_replaced_6 : decode b_Rp_replaced 6 = .ok (.if_icmp .gt 24, 3) := by decide +kernel
theorem d_Rp_replaced_9 : decode b_Rp_replaced 9 = .ok (.aload_n 0, 1) := by decide +kernel
theorem d_Rp_replaced_10 : decode b_Rp_replaced 10 = .ok (.getfield 9, 3) := by decide +kernel
theorem d_Rp_replaced_13 : decode b_Rp_replaced 13 = .ok (.iload 4, 2) := by decide +kernel
theorem d_Rp_replaced_15 : decode b_Rp_replaced 15 = .ok (.aload_n 0, 1) := by decide +kernel
theorem d_Rp_replaced_16 : decode b_Rp_replaced 16 = .ok (.iload 4, 2) := by decide +kernel
theorem d_Rp_replaced_18 : decode b_Rp_replaced 18 = .ok (.iload_n 2, 1) := by decide +kernel
theorem d_Rp_replaced_19 : decode b_Rp_replaced 19 = .ok (.iload_n 3, 1) := by decide +kernel
theorem d_Rp_replaced_20 : decode b_Rp_replaced 20 = .ok (.invokevirtual 22, 3) := by decide +kernel
theorem d_Rp_replaced_23 : decode b_Rp_replaced 23 = .ok (.iastore, 1) := by decide +kernel
theorem d_Rp_replaced_24 : decode b_Rp_replaced 24 = .ok (.iinc 4 1, 3) := by decide +kernel
theorem d_Rp_replaced_27 : decode b_Rp_replaced 27 = .ok (.goto (-24), 3) := by decide +kernel
theorem d_Rp_replaced_30 : decode b_Rp_replaced 30 = .ok (.aload_n 0, 1) := by decide +kernel
theorem d_Rp_replaced_31 : decode b_Rp_replaced 31 = .ok (.getfield 15, 3) := by decide +kernel
theorem d_Rp_replaced_34 : decode b_Rp_replaced 34 = .ok (.iconst 0, 1) := by decide +kernel
theorem d_Rp_replaced_35 : decode b_Rp_replaced 35 = .ok (.iload_n 1, 1) := by decide +kernel
theorem d_Rp_replaced_36 : decode b_Rp_replaced 36 = .ok (.iastore, 1) := by decide +kernel
theorem d_Rp_replaced_37 : decode b_Rp_replaced 37 = .ok (.iconst 0, 1) := by decide +kernel
theorem d_Rp_replaced_38 : decode b_Rp_replaced 38 = .ok (.istore 4, 2) := by decide +kernel
theorem d_Rp_replaced_40 : decode b_Rp_replaced 40 = .ok (.iconst 0, 1) := by decide +kernel
theorem d_Rp_replaced_41 : decode b_Rp_replaced 41 = .ok (.istore 5, 2) := by decide +kernel
theorem d_Rp_replaced_43 : decode b_Rp_replaced 43 = .ok (.iload 5, 2) := by decide +kernel
theorem d_Rp_replaced_45 : decode b_Rp_replaced 45 = .ok (.sipush 240, 3) := by decide +kernel
theorem d_Rp_replaced_48 : decode b_Rp_replaced 48 = .ok (.if_icmp .ge 73, 3) := by decide +kernel
theorem d_Rp_replaced_51 : decode b_Rp_replaced 51 = .ok (.aload_n 0, 1) := by decide +kernel
theorem d_Rp_replaced_52 : decode b_Rp_replaced 52 = .ok (.getfield 9, 3) := by decide +kernel
theorem d_Rp_replaced_55 : decode b_Rp_replaced 55 = .ok (.iload_n 1, 1) := by decide +kernel
theorem d_Rp_replaced_56 : decode b_Rp_replaced 56 = .ok (.iaload, 1) := by decide +kernel
theorem d_Rp_replaced_57 : decode b_Rp_replaced 57 = .ok (.iconst (-1), 1) := by decide +kernel
theorem d_Rp_replaced_58 : decode b_Rp_replaced 58 = .ok (.if_icmp .ne 63, 3) := by decide +kernel
theorem d_Rp_replaced_61 : decode b_Rp_replaced 61 = .ok (.aload_n 0, 1) := by decide +kernel
theorem d_Rp_replaced_62 : decode b_Rp_replaced 62 = .ok (.getfield 15, 3) := by decide +kernel
theorem d_Rp_replaced_65 : decode b_Rp_replaced 65 = .ok (.iload 4, 2) := by decide +kernel
theorem d_Rp_replaced_67 : decode b_Rp_replaced 67 = .ok (.iaload, 1) := by decide +kernel
theorem d_Rp_replaced_68 : decode b_Rp_replaced 68 = .ok (.istore 6, 2) := by decide +kernel
theorem d_Rp_replaced_70 : decode b_Rp_replaced 70 = .ok (.aload_n 0, 1) := by decide +kernel
theorem d_Rp_replaced_71 : decode b_Rp_replaced 71 = .ok (.iload 6, 2) := by decide +kernel
theorem d_Rp_replaced_73 : decode b_Rp_replaced 73 = .ok (.invokevirtual 26, 3) := by decide +kernel
theorem d_Rp_replaced_76 : decode b_Rp_replaced 76 = .ok (.istore 7, 2) := by decide +kernel
theorem d_Rp_replaced_78 : decode b_Rp_replaced 78 = .ok (.iload 7, 2) := by decide +kernel
theorem d_Rp_replaced_80 : decode b_Rp_replaced 80 = .ok (.iconst (-1), 1) := by decide +kernel
theorem d_Rp_replaced_81 : decode b_Rp_replaced 81 = .ok (.if_icmp .ne 22, 3) := by decide +kernel
theorem d_Rp_replaced_84 : decode b_Rp_replaced 84 = .ok (.aload_n 0, 1) := by decide +kernel
theorem d_Rp_replaced_85 : decode b_Rp_replaced 85 = .ok (.getfield 9, 3) := by decide +kernel
theorem d_Rp_replaced_88 : decode b_Rp_replaced 88 = .ok (.iload 6, 2) := by decide +kernel
theorem d_Rp_replaced_90 : decode b_Rp_replaced 90 = .ok (.aload_n 0, 1) := by decide +kernel
theorem d_Rp_replaced_91 : decode b_Rp_replaced 91 = .ok (.iload 6, 2) := by decide +kernel
theorem d_Rp_replaced_93 : decode b_Rp_replaced 93 = .ok (.invokevirtual 30, 3) := by decide +kernel
theorem d_Rp_replaced_96 : decode b_Rp_replaced 96 = .ok (.iastore, 1) := by decide +kernel
theorem d_Rp_replaced_97 : decode b_Rp_replaced 97 = .ok (.iinc 4 (-1), 3) := by decide +kernel
theorem d_Rp_replaced_100 : decode b_Rp_replaced 100 = .ok (.goto 15, 3) := by decide +kernel
theorem d_Rp_replaced_103 : decode b_Rp_replaced 103 = .ok (.iinc 4 1, 3) := by decide +kernel
theorem d_Rp_replaced_106 : decode b_Rp_replaced 106 = .ok (.aload_n 0, 1) := by decide +kernel
theorem d_Rp_replaced_107 : decode b_Rp_replaced 107 = .ok (.getfield 15, 3) := by decide +kernel
theorem d_Rp_replaced_110 : decode b_Rp_replaced 110 = .ok (.iload 4, 2) := by decide +kernel
theorem d_Rp_replaced_112 : decode b_Rp_replaced 112 = .ok (.iload 7, 2) := by decide +kernel
theorem d_Rp_replaced_114 : decode b_Rp_replaced 114 = .ok (.iastore, 1) := by decide +kernel
theorem d_Rp_replaced_115 : decode b_Rp_replaced 115 = .ok (.iinc 5 1, 3) := by decide +kernel
theorem d_Rp_replaced_118 : decode b_Rp_replaced 118 = .ok (.goto (-75), 3) := by decide +kernel
theorem d_Rp_replaced_121 : decode b_Rp_replaced 121 = .ok (.aload_n 0, 1) := by decide +kernel
theorem d_Rp_replaced_122 : decode b_Rp_replaced 122 = .ok (.getfield 9, 3) := by decide +kernel
theorem d_Rp_replaced_125 : decode b_Rp_replaced 125 = .ok (.iload_n 1, 1) := by decide +kernel
theorem d_Rp_replaced_126 : decode b_Rp_replaced 126 = .ok (.iaload, 1) := by decide +kernel
theorem d_Rp_replaced_127 : decode b_Rp_replaced 127 = .ok (.ireturn, 1) := by decide +kernel
theorem d_Rp_resultAhead_0 : decode b_Rp_resultAhead 0 = .ok (.aload_n 0, 1) := by decide +kernel
theorem d_Rp_resultAhead_1 : decode b_Rp_resultAhead 1 = .ok (.getfield 18, 3) := by decide +kernel
theorem d_Rp_resultAhead_4 : decode b_Rp_resultAhead 4 = .ok (.iload_n 1, 1) := by decide +kernel
theorem d_Rp_resultAhead_5 : decode b_Rp_resultAhead 5 = .ok (.iload_n 2, 1) := by decide +kernel
theorem d_Rp_resultAhead_6 : decode b_Rp_resultAhead 6 = .ok (.invokevirtual 33, 3) := by decide +kernel
theorem d_Rp_resultAhead_9 : decode b_Rp_resultAhead 9 = .ok (.ifCond .ne 5, 3) := by decide +kernel
theorem d_Rp_resultAhead_12 : decode b_Rp_resultAhead 12 = .ok (.iload_n 1, 1) := by decide +kernel
theorem d_Rp_resultAhead_13 : decode b_Rp_resultAhead 13 = .ok (.ireturn, 1) := by decide +kernel
theorem d_Rp_resultAhead_14 : decode b_Rp_resultAhead 14 = .ok (.aload_n 0, 1) := by decide +kernel
theorem d_Rp_resultAhead_15 : decode b_Rp_resultAhead 15 = .ok (.getfield 18, 3) := by decide +kernel
theorem d_Rp_resultAhead_18 : decode b_Rp_resultAhead 18 = .ok (.iload_n 1, 1) := by decide +kernel
theorem d_Rp_resultAhead_19 : decode b_Rp_resultAhead 19 = .ok (.iload_n 2, 1) := by decide +kernel
theorem d_Rp_resultAhead_20 : decode b_Rp_resultAhead 20 = .ok (.invokevirtual 39, 3) := by decide +kernel
theorem d_Rp_resultAhead_23 : decode b_Rp_resultAhead 23 = .ok (.ifCond .eq 7, 3) := by decide +kernel
theorem d_Rp_resultAhead_26 : decode b_Rp_resultAhead 26 = .ok (.iload_n 3, 1) := by decide +kernel
theorem d_Rp_resultAhead_27 : decode b_Rp_resultAhead 27 = .ok (.goto 4, 3) := by decide +kernel
theorem d_Rp_resultAhead_30 : decode b_Rp_resultAhead 30 = .ok (.iconst (-1), 1) := by decide +kernel
theorem d_Rp_resultAhead_31 : decode b_Rp_resultAhead 31 = .ok (.ireturn, 1) := by decide +kernel
theorem d_Rp_missingPart_0 : decode b_Rp_missingPart 0 = .ok (.aload_n 0, 1) := by decide +kernel
theorem d_Rp_missingPart_1 : decode b_Rp_missingPart 1 = .ok (.getfield 18, 3) := by decide +kernel
theorem d_Rp_missingPart_4 : decode b_Rp_missingPart 4 = .ok (.iload_n 1, 1) := by decide +kernel
theorem d_Rp_missingPart_5 : decode b_Rp_missingPart 5 = .ok (.iconst 1, 1) := by decide +kernel
theorem d_Rp_missingPart_6 : decode b_Rp_missingPart 6 = .ok (.invokevirtual 42, 3) := by decide +kernel
theorem d_Rp_missingPart_9 : decode b_Rp_missingPart 9 = .ok (.istore_n 2, 1) := by decide +kernel
theorem d_Rp_missingPart_10 : decode b_Rp_missingPart 10 = .ok (.aload_n 0, 1) := by decide +kernel
theorem d_Rp_missingPart_11 : decode b_Rp_missingPart 11 = .ok (.getfield 9, 3) := by decide +kernel
theorem d_Rp_missingPart_14 : decode b_Rp_missingPart 14 = .ok (.iload_n 2, 1) := by decide +kernel
theorem d_Rp_missingPart_15 : decode b_Rp_missingPart 15 = .ok (.iaload, 1) := by decide +kernel
theorem d_Rp_missingPart_16 : decode b_Rp_missingPart 16 = .ok (.iconst (-1), 1) := by decide +kernel
theorem d_Rp_missingPart_17 : decode b_Rp_missingPart 17 = .ok (.if_icmp .ne 5, 3) := by decide +kernel
theorem d_Rp_missingPart_20 : decode b_Rp_missingPart 20 = .ok (.iload_n 2, 1) := by decide +kernel
theorem d_Rp_missingPart_21 : decode b_Rp_missingPart 21 = .ok (.ireturn, 1) := by decide +kernel
theorem d_Rp_missingPart_22 : decode b_Rp_missingPart 22 = .ok (.aload_n 0, 1) := by decide +kernel
theorem d_Rp_missingPart_23 : decode b_Rp_missingPart 23 = .ok (.getfield 18, 3) := by decide +kernel
theorem d_Rp_missingPart_26 : decode b_Rp_missingPart 26 = .ok (.iload_n 1, 1) := by decide +kernel
theorem d_Rp_missingPart_27 : decode b_Rp_missingPart 27 = .ok (.iconst 2, 1) := by decide +kernel
theorem d_Rp_missingPart_28 : decode b_Rp_missingPart 28 = .ok (.invokevirtual 42, 3) := by decide +kernel
theorem d_Rp_missingPart_31 : decode b_Rp_missingPart 31 = .ok (.istore_n 3, 1) := by decide +kernel
theorem d_Rp_missingPart_32 : decode b_Rp_missingPart 32 = .ok (.iload_n 3, 1) := by decide +kernel
theorem d_Rp_missingPart_33 : decode b_Rp_missingPart 33 = .ok (.iconst (-1), 1) := by decide +kernel
theorem d_Rp_missingPart_34 : decode b_Rp_missingPart 34 = .ok (.if_icmp .eq 17, 3) := by decide +kernel
theorem d_Rp_missingPart_37 : decode b_Rp_missingPart 37 = .ok (.aload_n 0, 1) := by decide +kernel
theorem d_Rp_missingPart_38 : decode b_Rp_missingPart 38 = .ok (.getfield 9, 3) := by decide +kernel
theorem d_Rp_missingPart_41 : decode b_Rp_missingPart 41 = .ok (.iload_n 3, 1) := by decide +kernel
theorem d_Rp_missingPart_42 : decode b_Rp_missingPart 42 = .ok (.iaload, 1) := by decide +kernel
theorem d_Rp_missingPart_43 : decode b_Rp_missingPart 43 = .ok (.iconst (-1), 1) := by decide +kernel
theorem d_Rp_missingPart_44 : decode b_Rp_missingPart 44 = .ok (.if_icmp .ne 7, 3) := by decide +kernel
theorem d_Rp_missingPart_47 : decode b_Rp_missingPart 47 = .ok (.iload_n 3, 1) := by decide +kernel
theorem d_Rp_missingPart_48 : decode b_Rp_missingPart 48 = .ok (.goto 4, 3) := by decide +kernel
theorem d_Rp_missingPart_51 : decode b_Rp_missingPart 51 = .ok (.iconst (-1), 1) := by decide +kernel
theorem d_Rp_missingPart_52 : decode b_Rp_missingPart 52 = .ok (.ireturn, 1) := by decide +kernel
theorem d_Rp_remade_0 : decode b_Rp_remade 0 = .ok (.aload_n 0, 1) := by decide +kernel
theorem d_Rp_remade_1 : decode b_Rp_remade 1 = .ok (.getfield 18, 3) := by decide +kernel
theorem d_Rp_remade_4 : decode b_Rp_remade 4 = .ok (.iload_n 1, 1) := by decide +kernel
theorem d_Rp_remade_5 : decode b_Rp_remade 5 = .ok (.iconst 1, 1) := by decide +kernel
theorem d_Rp_remade_6 : decode b_Rp_remade 6 = .ok (.invokevirtual 42, 3) := by decide +kernel
theorem d_Rp_remade_9 : decode b_Rp_remade 9 = .ok (.istore_n 2, 1) := by decide +kernel
theorem d_Rp_remade_10 : decode b_Rp_remade 10 = .ok (.aload_n 0, 1) := by decide +kernel
theorem d_Rp_remade_11 : decode b_Rp_remade 11 = .ok (.getfield 18, 3) := by decide +kernel
theorem d_Rp_remade_14 : decode b_Rp_remade 14 = .ok (.iload_n 1, 1) := by decide +kernel
theorem d_Rp_remade_15 : decode b_Rp_remade 15 = .ok (.iconst 2, 1) := by decide +kernel
theorem d_Rp_remade_16 : decode b_Rp_remade 16 = .ok (.invokevirtual 42, 3) := by decide +kernel
theorem d_Rp_remade_19 : decode b_Rp_remade 19 = .ok (.istore_n 3, 1) := by decide +kernel
theorem d_Rp_remade_20 : decode b_Rp_remade 20 = .ok (.aload_n 0, 1) := by decide +kernel
theorem d_Rp_remade_21 : decode b_Rp_remade 21 = .ok (.getfield 18, 3) := by decide +kernel
theorem d_Rp_remade_24 : decode b_Rp_remade 24 = .ok (.aload_n 0, 1) := by decide +kernel
theorem d_Rp_remade_25 : decode b_Rp_remade 25 = .ok (.getfield 18, 3) := by decide +kernel
theorem d_Rp_remade_28 : decode b_Rp_remade 28 = .ok (.iload_n 1, 1) := by decide +kernel
theorem d_Rp_remade_29 : decode b_Rp_remade 29 = .ok (.iconst 0, 1) := by decide +kernel
theorem d_Rp_remade_30 : decode b_Rp_remade 30 = .ok (.invokevirtual 42, 3) := by decide +kernel
theorem d_Rp_remade_33 : decode b_Rp_remade 33 = .ok (.aload_n 0, 1) := by decide +kernel
theorem d_Rp_remade_34 : decode b_Rp_remade 34 = .ok (.getfield 9, 3) := by decide +kernel
theorem d_Rp_remade_37 : decode b_Rp_remade 37 = .ok (.iload_n 2, 1) := by decide +kernel
theorem d_Rp_remade_38 : decode b_Rp_remade 38 = .ok (.iaload, 1) := by decide +kernel
theorem d_Rp_remade_39 : decode b_Rp_remade 39 = .ok (.iload_n 3, 1) := by decide +kernel
theorem d_Rp_remade_40 : decode b_Rp_remade 40 = .ok (.iconst (-1), 1) := by decide +kernel
theorem d_Rp_remade_41 : decode b_Rp_remade 41 = .ok (.if_icmp .ne 7, 3) := by decide +kernel
theorem d_Rp_remade_44 : decode b_Rp_remade 44 = .ok (.iconst (-1), 1) := by decide +kernel
theorem d_Rp_remade_45 : decode b_Rp_remade 45 = .ok (.goto 9, 3) := by decide +kernel
theorem d_Rp_remade_48 : decode b_Rp_remade 48 = .ok (.aload_n 0, 1) := by decide +kernel
theorem d_Rp_remade_49 : decode b_Rp_remade 49 = .ok (.getfield 9, 3) := by decide +kernel
theorem d_Rp_remade_52 : decode b_Rp_remade 52 = .ok (.iload_n 3, 1) := by decide +kernel
theorem d_Rp_remade_53 : decode b_Rp_remade 53 = .ok (.iaload, 1) := by decide +kernel
theorem d_Rp_remade_54 : decode b_Rp_remade 54 = .ok (.invokevirtual 46, 3) := by decide +kernel
theorem d_Rp_remade_57 : decode b_Rp_remade 57 = .ok (.ireturn, 1) := by decide +kernel
theorem d_LR_part_0 : decode b_LR_part 0 = .ok (.aload_n 0, 1) := by decide +kernel
theorem d_LR_part_1 : decode b_LR_part 1 = .ok (.iload_n 1, 1) := by decide +kernel
theorem d_LR_part_2 : decode b_LR_part 2 = .ok (.invokevirtual 40, 3) := by decide +kernel
theorem d_LR_part_5 : decode b_LR_part 5 = .ok (.iload_n 2, 1) := by decide +kernel
theorem d_LR_part_6 : decode b_LR_part 6 = .ok (.ifCond .lt 9, 3) := by decide +kernel
theorem d_LR_part_9 : decode b_LR_part 9 = .ok (.iload_n 2, 1) := by decide +kernel
theorem d_LR_part_10 : decode b_LR_part 10 = .ok (.bipush 32, 2) := by decide +kernel
theorem d_LR_part_12 : decode b_LR_part 12 = .ok (.if_icmp .lt 13, 3) := by decide +kernel
theorem d_LR_part_15 : decode b_LR_part 15 = .ok (.new 58, 3) := by decide +kernel
theorem d_LR_part_18 : decode b_LR_part 18 = .ok (.dup, 1) := by decide +kernel
theorem d_LR_part_19 : decode b_LR_part 19 = .ok (.ldc 60, 2) := by decide +kernel
theorem d_LR_part_21 : decode b_LR_part 21 = .ok (.invokespecial 62, 3) := by decide +kernel
theorem d_LR_part_24 : decode b_LR_part 24 = .ok (.athrow, 1) := by decide +kernel
theorem d_LR_part_25 : decode b_LR_part 25 = .ok (.iload_n 3, 1) := by decide +kernel
theorem d_LR_part_26 : decode b_LR_part 26 = .ok (.iconst (-1), 1) := by decide +kernel
theorem d_LR_part_27 : decode b_LR_part 27 = .ok (.if_icmp .ne 17, 3) := by decide +kernel
theorem d_LR_part_30 : decode b_LR_part 30 = .ok (.aload_n 0, 1) := by decide +kernel
theorem d_LR_part_31 : decode b_LR_part 31 = .ok (.getfield 12, 3) := by decide +kernel
theorem d_LR_part_34 : decode b_LR_part 34 = .ok (.iload_n 1, 1) := by decide +kernel
theorem d_LR_part_35 : decode b_LR_part 35 = .ok (.iload_n 2, 1) := by decide +kernel
theorem d_LR_part_36 : decode b_LR_part 36 = .ok (.invokevirtual 65, 3) := by decide +kernel
theorem d_LR_part_39 : decode b_LR_part 39 = .ok (.iconst 5, 1) := by decide +kernel
theorem d_LR_part_40 : decode b_LR_part 40 = .ok (.invokestatic 71, 3) := by decide +kernel
theorem d_LR_part_43 : decode b_LR_part 43 = .ok (.ireturn, 1) := by decide +kernel
theorem d_LR_part_44 : decode b_LR_part 44 = .ok (.iload_n 3, 1) := by decide +kernel
theorem d_LR_part_45 : decode b_LR_part 45 = .ok (.invokestatic 36, 3) := by decide +kernel
theorem d_LR_part_48 : decode b_LR_part 48 = .ok (.aload_n 0, 1) := by decide +kernel
theorem d_LR_part_49 : decode b_LR_part 49 = .ok (.getfield 12, 3) := by decide +kernel
theorem d_LR_part_52 : decode b_LR_part 52 = .ok (.iload_n 1, 1) := by decide +kernel
theorem d_LR_part_53 : decode b_LR_part 53 = .ok (.iload_n 2, 1) := by decide +kernel
theorem d_LR_part_54 : decode b_LR_part 54 = .ok (.invokevirtual 65, 3) := by decide +kernel
theorem d_LR_part_57 : decode b_LR_part 57 = .ok (.iload_n 3, 1) := by decide +kernel
theorem d_LR_part_58 : decode b_LR_part 58 = .ok (.invokestatic 71, 3) := by decide +kernel
theorem d_LR_part_61 : decode b_LR_part 61 = .ok (.ireturn, 1) := by decide +kernel
theorem d_LR_isAtMost_0 : decode b_LR_isAtMost 0 = .ok (.aload_n 0, 1) := by decide +kernel
theorem d_LR_isAtMost_1 : decode b_LR_isAtMost 1 = .ok (.iload_n 1, 1) := by decide +kernel
theorem d_LR_isAtMost_2 : decode b_LR_isAtMost 2 = .ok (.invokevirtual 40, 3) := by decide +kernel
theorem d_LR_isAtMost_5 : decode b_LR_isAtMost 5 = .ok (.aload_n 0, 1) := by decide +kernel
theorem d_LR_isAtMost_6 : decode b_LR_isAtMost 6 = .ok (.iload_n 2, 1) := by decide +kernel
theorem d_LR_isAtMost_7 : decode b_LR_isAtMost 7 = .ok (.invokevirtual 40, 3) := by decide +kernel
theorem d_LR_isAtMost_10 : decode b_LR_isAtMost 10 = .ok (.aload_n 0, 1) := by decide +kernel
theorem d_LR_isAtMost_11 : decode b_LR_isAtMost 11 = .ok (.getfield 12, 3) := by decide +kernel
theorem d_LR_isAtMost_14 : decode b_LR_isAtMost 14 = .ok (.iload_n 1, 1) := by decide +kernel
theorem d_LR_isAtMost_15 : decode b_LR_isAtMost 15 = .ok (.iload_n 2, 1) := by decide +kernel
theorem d_LR_isAtMost_16 : decode b_LR_isAtMost 16 = .ok (.invokevirtual 75, 3) := by decide +kernel
theorem d_LR_isAtMost_19 : decode b_LR_isAtMost 19 = .ok (.iconst (-1), 1) := by decide +kernel
theorem d_LR_isAtMost_20 : decode b_LR_isAtMost 20 = .ok (.if_icmp .ne 7, 3) := by decide +kernel
theorem d_LR_isAtMost_23 : decode b_LR_isAtMost 23 = .ok (.iconst 1, 1) := by decide +kernel
theorem d_LR_isAtMost_24 : decode b_LR_isAtMost 24 = .ok (.goto 4, 3) := by decide +kernel
theorem d_LR_isAtMost_27 : decode b_LR_isAtMost 27 = .ok (.iconst 0, 1) := by decide +kernel
theorem d_LR_isAtMost_28 : decode b_LR_isAtMost 28 = .ok (.ireturn, 1) := by decide +kernel
theorem d_LR_isSame_0 : decode b_LR_isSame 0 = .ok (.aload_n 0, 1) := by decide +kernel
theorem d_LR_isSame_1 : decode b_LR_isSame 1 = .ok (.iload_n 1, 1) := by decide +kernel
theorem d_LR_isSame_2 : decode b_LR_isSame 2 = .ok (.invokevirtual 40, 3) := by decide +kernel
theorem d_LR_isSame_5 : decode b_LR_isSame 5 = .ok (.aload_n 0, 1) := by decide +kernel
theorem d_LR_isSame_6 : decode b_LR_isSame 6 = .ok (.iload_n 2, 1) := by decide +kernel
theorem d_LR_isSame_7 : decode b_LR_isSame 7 = .ok (.invokevirtual 40, 3) := by decide +kernel
theorem d_LR_isSame_10 : decode b_LR_isSame 10 = .ok (.aload_n 0, 1) := by decide +kernel
theorem d_LR_isSame_11 : decode b_LR_isSame 11 = .ok (.getfield 12, 3) := by decide +kernel
theorem d_LR_isSame_14 : decode b_LR_isSame 14 = .ok (.iload_n 1, 1) := by decide +kernel
theorem d_LR_isSame_15 : decode b_LR_isSame 15 = .ok (.iload_n 2, 1) := by decide +kernel
theorem d_LR_isSame_16 : decode b_LR_isSame 16 = .ok (.invokevirtual 78, 3) := by decide +kernel
theorem d_LR_isSame_19 : decode b_LR_isSame 19 = .ok (.ireturn, 1) := by decide +kernel
theorem d_LR_least_0 : decode b_LR_least 0 = .ok (.aload_n 0, 1) := by decide +kernel
theorem d_LR_least_1 : decode b_LR_least 1 = .ok (.iload_n 1, 1) := by decide +kernel
theorem d_LR_least_2 : decode b_LR_least 2 = .ok (.invokevirtual 40, 3) := by decide +kernel
theorem d_LR_least_5 : decode b_LR_least 5 = .ok (.aload_n 0, 1) := by decide +kernel
theorem d_LR_least_6 : decode b_LR_least 6 = .ok (.getfield 12, 3) := by decide +kernel
theorem d_LR_least_9 : decode b_LR_least 9 = .ok (.iload_n 1, 1) := by decide +kernel
theorem d_LR_least_10 : decode b_LR_least 10 = .ok (.invokevirtual 82, 3) := by decide +kernel
theorem d_LR_least_13 : decode b_LR_least 13 = .ok (.ireturn, 1) := by decide +kernel
theorem d_LR_above_0 : decode b_LR_above 0 = .ok (.aload_n 0, 1) := by decide +kernel
theorem d_LR_above_1 : decode b_LR_above 1 = .ok (.iload_n 1, 1) := by decide +kernel
theorem d_LR_above_2 : decode b_LR_above 2 = .ok (.invokevirtual 40, 3) := by decide +kernel
theorem d_LR_above_5 : decode b_LR_above 5 = .ok (.aload_n 0, 1) := by decide +kernel
theorem d_LR_above_6 : decode b_LR_above 6 = .ok (.iload_n 2, 1) := by decide +kernel
theorem d_LR_above_7 : decode b_LR_above 7 = .ok (.invokevirtual 40, 3) := by decide +kernel
theorem d_LR_above_10 : decode b_LR_above 10 = .ok (.aload_n 0, 1) := by decide +kernel
theorem d_LR_above_11 : decode b_LR_above 11 = .ok (.getfield 12, 3) := by decide +kernel
theorem d_LR_above_14 : decode b_LR_above 14 = .ok (.iload_n 1, 1) := by decide +kernel
theorem d_LR_above_15 : decode b_LR_above 15 = .ok (.iload_n 2, 1) := by decide +kernel
theorem d_LR_above_16 : decode b_LR_above 16 = .ok (.invokevirtual 75, 3) := by decide +kernel
theorem d_LR_above_19 : decode b_LR_above 19 = .ok (.istore_n 3, 1) := by decide +kernel
theorem d_LR_above_20 : decode b_LR_above 20 = .ok (.iload_n 3, 1) := by decide +kernel
theorem d_LR_above_21 : decode b_LR_above 21 = .ok (.iconst (-1), 1) := by decide +kernel
theorem d_LR_above_22 : decode b_LR_above 22 = .ok (.if_icmp .ne 7, 3) := by decide +kernel
theorem d_LR_above_25 : decode b_LR_above 25 = .ok (.ldc2_w 86, 3) := by decide +kernel
theorem d_LR_above_28 : decode b_LR_above 28 = .ok (.lreturn, 1) := by decide +kernel
theorem d_LR_above_29 : decode b_LR_above 29 = .ok (.aload_n 0, 1) := by decide +kernel
theorem d_LR_above_30 : decode b_LR_above 30 = .ok (.getfield 12, 3) := by decide +kernel
theorem d_LR_above_33 : decode b_LR_above 33 = .ok (.iload_n 1, 1) := by decide +kernel
theorem d_LR_above_34 : decode b_LR_above 34 = .ok (.iload_n 3, 1) := by decide +kernel
theorem d_LR_above_35 : decode b_LR_above 35 = .ok (.invokevirtual 65, 3) := by decide +kernel
theorem d_LR_above_38 : decode b_LR_above 38 = .ok (.aload_n 0, 1) := by decide +kernel
theorem d_LR_above_39 : decode b_LR_above 39 = .ok (.getfield 12, 3) := by decide +kernel
theorem d_LR_above_42 : decode b_LR_above 42 = .ok (.iload_n 2, 1) := by decide +kernel
theorem d_LR_above_43 : decode b_LR_above 43 = .ok (.iload_n 3, 1) := by decide +kernel
theorem d_LR_above_44 : decode b_LR_above 44 = .ok (.invokevirtual 65, 3) := by decide +kernel
theorem d_LR_above_47 : decode b_LR_above 47 = .ok (.iload_n 3, 1) := by decide +kernel
theorem d_LR_above_48 : decode b_LR_above 48 = .ok (.invokestatic 88, 3) := by decide +kernel
theorem d_LR_above_51 : decode b_LR_above 51 = .ok (.lreturn, 1) := by decide +kernel
theorem d_LR_unknown_0 : decode b_LR_unknown 0 = .ok (.aload_n 0, 1) := by decide +kernel
theorem d_LR_unknown_1 : decode b_LR_unknown 1 = .ok (.getfield 28, 3) := by decide +kernel
theorem d_LR_unknown_4 : decode b_LR_unknown 4 = .ok (.invokevirtual 92, 3) := by decide +kernel
theorem d_LR_unknown_7 : decode b_LR_unknown 7 = .ok (.bipush 10, 2) := by decide +kernel
theorem d_LR_unknown_9 : decode b_LR_unknown 9 = .ok (.if_icmp .lt 13, 3) := by decide +kernel
theorem d_LR_unknown_12 : decode b_LR_unknown 12 = .ok (.new 96, 3) := by decide +kernel
theorem d_LR_unknown_15 : decode b_LR_unknown 15 = .ok (.dup, 1) := by decide +kernel
theorem d_LR_unknown_16 : decode b_LR_unknown 16 = .ok (.ldc 98, 2) := by decide +kernel
theorem d_LR_unknown_18 : decode b_LR_unknown 18 = .ok (.invokespecial 100, 3) := by decide +kernel
theorem d_LR_unknown_21 : decode b_LR_unknown 21 = .ok (.athrow, 1) := by decide +kernel
theorem d_LR_unknown_22 : decode b_LR_unknown 22 = .ok (.aload_n 0, 1) := by decide +kernel
theorem d_LR_unknown_23 : decode b_LR_unknown 23 = .ok (.getfield 28, 3) := by decide +kernel
theorem d_LR_unknown_26 : decode b_LR_unknown 26 = .ok (.invokevirtual 101, 3) := by decide +kernel
theorem d_LR_unknown_29 : decode b_LR_unknown 29 = .ok (.ireturn, 1) := by decide +kernel
theorem d_Nd_addUnknown_0 : decode b_Nd_addUnknown 0 = .ok (.aload_n 0, 1) := by decide +kernel
theorem d_Nd_addUnknown_1 : decode b_Nd_addUnknown 1 = .ok (.dup, 1) := by decide +kernel
theorem d_Nd_addUnknown_2 : decode b_Nd_addUnknown 2 = .ok (.getfield 28, 3) := by decide +kernel
theorem d_Nd_addUnknown_5 : decode b_Nd_addUnknown 5 = .ok (.iconst 1, 1) := by decide +kernel
theorem d_Nd_addUnknown_6 : decode b_Nd_addUnknown 6 = .ok (.iadd, 1) := by decide +kernel
theorem d_Nd_addUnknown_7 : decode b_Nd_addUnknown 7 = .ok (.putfield 28, 3) := by decide +kernel
theorem d_Nd_addUnknown_10 : decode b_Nd_addUnknown 10 = .ok (.aload_n 0, 1) := by decide +kernel
theorem d_Nd_addUnknown_11 : decode b_Nd_addUnknown 11 = .ok (.getfield 28, 3) := by decide +kernel
theorem d_Nd_addUnknown_14 : decode b_Nd_addUnknown 14 = .ok (.iconst 1, 1) := by decide +kernel
theorem d_Nd_addUnknown_15 : decode b_Nd_addUnknown 15 = .ok (.isub, 1) := by decide +kernel
theorem d_Nd_addUnknown_16 : decode b_Nd_addUnknown 16 = .ok (.ireturn, 1) := by decide +kernel
theorem d_LR_need_0 : decode b_LR_need 0 = .ok (.aload_n 0, 1) := by decide +kernel
theorem d_LR_need_1 : decode b_LR_need 1 = .ok (.getfield 28, 3) := by decide +kernel
theorem d_LR_need_4 : decode b_LR_need 4 = .ok (.iload_n 1, 1) := by decide +kernel
theorem d_LR_need_5 : decode b_LR_need 5 = .ok (.invokevirtual 104, 3) := by decide +kernel
theorem d_LR_need_8 : decode b_LR_need 8 = .ok (.ifCond .eq 14, 3) := by decide +kernel
theorem d_LR_need_11 : decode b_LR_need 11 = .ok (.aload_n 0, 1) := by decide +kernel
theorem d_LR_need_12 : decode b_LR_need 12 = .ok (.getfield 28, 3) := by decide +kernel
theorem d_LR_need_15 : decode b_LR_need 15 = .ok (.iload_n 3, 1) := by decide +kernel
theorem d_LR_need_16 : decode b_LR_need 16 = .ok (.invokevirtual 104, 3) := by decide +kernel
theorem d_LR_need_19 : decode b_LR_need 19 = .ok (.ifCond .ne 13, 3) := by decide +kernel
theorem d_LR_need_22 : decode b_LR_need 22 = .ok (.new 58, 3) := by decide +kernel
theorem d_LR_need_25 : decode b_LR_need 25 = .ok (.dup, 1) := by decide +kernel
theorem d_LR_need_26 : decode b_LR_need 26 = .ok (.ldc 107, 2) := by decide +kernel
theorem d_LR_need_28 : decode b_LR_need 28 = .ok (.invokespecial 62, 3) := by decide +kernel
theorem d_LR_need_31 : decode b_LR_need 31 = .ok (.athrow, 1) := by decide +kernel
theorem d_LR_need_32 : decode b_LR_need 32 = .ok (.iload_n 2, 1) := by decide +kernel
theorem d_LR_need_33 : decode b_LR_need 33 = .ok (.bipush (-20), 2) := by decide +kernel
theorem d_LR_need_35 : decode b_LR_need 35 = .ok (.if_icmp .lt 9, 3) := by decide +kernel
theorem d_LR_need_38 : decode b_LR_need 38 = .ok (.iload_n 2, 1) := by decide +kernel
theorem d_LR_need_39 : decode b_LR_need 39 = .ok (.bipush 20, 2) := by decide +kernel
theorem d_LR_need_41 : decode b_LR_need 41 = .ok (.if_icmp .le 13, 3) := by decide +kernel
theorem d_LR_need_44 : decode b_LR_need 44 = .ok (.new 109, 3) := by decide +kernel
theorem d_LR_need_47 : decode b_LR_need 47 = .ok (.dup, 1) := by decide +kernel
theorem d_LR_need_48 : decode b_LR_need 48 = .ok (.ldc 111, 2) := by decide +kernel
theorem d_LR_need_50 : decode b_LR_need 50 = .ok (.invokespecial 113, 3) := by decide +kernel
theorem d_LR_need_53 : decode b_LR_need 53 = .ok (.athrow, 1) := by decide +kernel
theorem d_LR_need_54 : decode b_LR_need 54 = .ok (.aload_n 0, 1) := by decide +kernel
theorem d_LR_need_55 : decode b_LR_need 55 = .ok (.getfield 28, 3) := by decide +kernel
theorem d_LR_need_58 : decode b_LR_need 58 = .ok (.invokevirtual 114, 3) := by decide +kernel
theorem d_LR_need_61 : decode b_LR_need 61 = .ok (.bipush 30, 2) := by decide +kernel
theorem d_LR_need_63 : decode b_LR_need 63 = .ok (.if_icmp .lt 13, 3) := by decide +kernel
theorem d_LR_need_66 : decode b_LR_need 66 = .ok (.new 96, 3) := by decide +kernel
theorem d_LR_need_69 : decode b_LR_need 69 = .ok (.dup, 1) := by decide +kernel
theorem d_LR_need_70 : decode b_LR_need 70 = .ok (.ldc 117, 2) := by decide +kernel
theorem d_LR_need_72 : decode b_LR_need 72 = .ok (.invokespecial 100, 3) := by decide +kernel
theorem d_LR_need_75 : decode b_LR_need 75 = .ok (.athrow, 1) := by decide +kernel
theorem d_LR_need_76 : decode b_LR_need 76 = .ok (.aload_n 0, 1) := by decide +kernel
theorem d_LR_need_77 : decode b_LR_need 77 = .ok (.getfield 28, 3) := by decide +kernel
theorem d_LR_need_80 : decode b_LR_need 80 = .ok (.iload_n 1, 1) := by decide +kernel
theorem d_LR_need_81 : decode b_LR_need 81 = .ok (.iload_n 2, 1) := by decide +kernel
theorem d_LR_need_82 : decode b_LR_need 82 = .ok (.iload_n 3, 1) := by decide +kernel
theorem d_LR_need_83 : decode b_LR_need 83 = .ok (.invokevirtual 119, 3) := by decide +kernel
theorem d_LR_need_86 : decode b_LR_need 86 = .ok (.ireturn, 1) := by decide +kernel
theorem d_Nd_isSide_0 : decode b_Nd_isSide 0 = .ok (.iload_n 1, 1) := by decide +kernel
theorem d_Nd_isSide_1 : decode b_Nd_isSide 1 = .ok (.iconst (-1), 1) := by decide +kernel
theorem d_Nd_isSide_2 : decode b_Nd_isSide 2 = .ok (.if_icmp .eq 11, 3) := by decide +kernel
theorem d_Nd_isSide_5 : decode b_Nd_isSide 5 = .ok (.aload_n 0, 1) := by decide +kernel
theorem d_Nd_isSide_6 : decode b_Nd_isSide 6 = .ok (.iload_n 1, 1) := by decide +kernel
theorem d_Nd_isSide_7 : decode b_Nd_isSide 7 = .ok (.invokevirtual 45, 3) := by decide +kernel
theorem d_Nd_isSide_10 : decode b_Nd_isSide 10 = .ok (.ifCond .eq 7, 3) := by decide +kernel
theorem d_Nd_isSide_13 : decode b_Nd_isSide 13 = .ok (.iconst 1, 1) := by decide +kernel
theorem d_Nd_isSide_14 : decode b_Nd_isSide 14 = .ok (.goto 4, 3) := by decide +kernel
theorem d_Nd_isSide_17 : decode b_Nd_isSide 17 = .ok (.iconst 0, 1) := by decide +kernel
theorem d_Nd_isSide_18 : decode b_Nd_isSide 18 = .ok (.ireturn, 1) := by decide +kernel
theorem d_Nd_add_0 : decode b_Nd_add 0 = .ok (.aload_n 0, 1) := by decide +kernel
theorem d_Nd_add_1 : decode b_Nd_add 1 = .ok (.getfield 9, 3) := by decide +kernel
theorem d_Nd_add_4 : decode b_Nd_add 4 = .ok (.aload_n 0, 1) := by decide +kernel
theorem d_Nd_add_5 : decode b_Nd_add 5 = .ok (.getfield 32, 3) := by decide +kernel
theorem d_Nd_add_8 : decode b_Nd_add 8 = .ok (.iload_n 1, 1) := by decide +kernel
theorem d_Nd_add_9 : decode b_Nd_add 9 = .ok (.iconst (-1), 1) := by decide +kernel
theorem d_Nd_add_10 : decode b_Nd_add 10 = .ok (.if_icmp .ne 8, 3) := by decide +kernel
theorem d_Nd_add_13 : decode b_Nd_add 13 = .ok (.bipush 10, 2) := by decide +kernel
theorem d_Nd_add_15 : decode b_Nd_add 15 = .ok (.goto 4, 3) := by decide +kernel
theorem d_Nd_add_18 : decode b_Nd_add 18 = .ok (.iload_n 1, 1) := by decide +kernel
theorem d_Nd_add_19 : decode b_Nd_add 19 = .ok (.iastore, 1) := by decide +kernel
theorem d_Nd_add_20 : decode b_Nd_add 20 = .ok (.aload_n 0, 1) := by decide +kernel
theorem d_Nd_add_21 : decode b_Nd_add 21 = .ok (.getfield 15, 3) := by decide +kernel
theorem d_Nd_add_24 : decode b_Nd_add 24 = .ok (.aload_n 0, 1) := by decide +kernel
theorem d_Nd_add_25 : decode b_Nd_add 25 = .ok (.getfield 32, 3) := by decide +kernel
theorem d_Nd_add_28 : decode b_Nd_add 28 = .ok (.iload_n 2, 1) := by decide +kernel
theorem d_Nd_add_29 : decode b_Nd_add 29 = .ok (.iastore, 1) := by decide +kernel
theorem d_Nd_add_30 : decode b_Nd_add 30 = .ok (.aload_n 0, 1) := by decide +kernel
theorem d_Nd_add_31 : decode b_Nd_add 31 = .ok (.getfield 18, 3) := by decide +kernel
theorem d_Nd_add_34 : decode b_Nd_add 34 = .ok (.aload_n 0, 1) := by decide +kernel
theorem d_Nd_add_35 : decode b_Nd_add 35 = .ok (.getfield 32, 3) := by decide +kernel
theorem d_Nd_add_38 : decode b_Nd_add 38 = .ok (.iload_n 3, 1) := by decide +kernel
theorem d_Nd_add_39 : decode b_Nd_add 39 = .ok (.iconst (-1), 1) := by decide +kernel
theorem d_Nd_add_40 : decode b_Nd_add 40 = .ok (.if_icmp .ne 8, 3) := by decide +kernel
theorem d_Nd_add_43 : decode b_Nd_add 43 = .ok (.bipush 10, 2) := by decide +kernel
theorem d_Nd_add_45 : decode b_Nd_add 45 = .ok (.goto 4, 3) := by decide +kernel
theorem d_Nd_add_48 : decode b_Nd_add 48 = .ok (.iload_n 3, 1) := by decide +kernel
theorem d_Nd_add_49 : decode b_Nd_add 49 = .ok (.iastore, 1) := by decide +kernel
theorem d_Nd_add_50 : decode b_Nd_add 50 = .ok (.aload_n 0, 1) := by decide +kernel
theorem d_Nd_add_51 : decode b_Nd_add 51 = .ok (.dup, 1) := by decide +kernel
theorem d_Nd_add_52 : decode b_Nd_add 52 = .ok (.getfield 32, 3) := by decide +kernel
theorem d_Nd_add_55 : decode b_Nd_add 55 = .ok (.iconst 1, 1) := by decide +kernel
theorem d_Nd_add_56 : decode b_Nd_add 56 = .ok (.iadd, 1) := by decide +kernel
theorem d_Nd_add_57 : decode b_Nd_add 57 = .ok (.putfield 32, 3) := by decide +kernel
theorem d_Nd_add_60 : decode b_Nd_add 60 = .ok (.aload_n 0, 1) := by decide +kernel
theorem d_Nd_add_61 : decode b_Nd_add 61 = .ok (.invokevirtual 49, 3) := by decide +kernel
theorem d_Nd_add_64 : decode b_Nd_add 64 = .ok (.aload_n 0, 1) := by decide +kernel
theorem d_Nd_add_65 : decode b_Nd_add 65 = .ok (.getfield 32, 3) := by decide +kernel
theorem d_Nd_add_68 : decode b_Nd_add 68 = .ok (.iconst 1, 1) := by decide +kernel
theorem d_Nd_add_69 : decode b_Nd_add 69 = .ok (.isub, 1) := by decide +kernel
theorem d_Nd_add_70 : decode b_Nd_add 70 = .ok (.ireturn, 1) := by decide +kernel
end
section
theorem d_Mo_init_0 : decode b_Mo_init 0 = .ok (.aload_n 0, 1) := by decide +kernel
theorem d_Mo_init_1 : decode b_Mo_init 1 = .ok (.invokespecial 1, 3) := by decide +kernel
theorem d_Mo_init_4 : decode b_Mo_init 4 = .ok (.aload_n 0, 1) := by decide +kernel
theorem d_Mo_init_5 : decode b_Mo_init 5 = .ok (.bipush 120, 2) := by decide +kernel
theorem d_Mo_init_7 : decode b_Mo_init 7 = .ok (.newarray .int, 2) := by decide +kernel
theorem d_Mo_init_9 : decode b_Mo_init 9 = .ok (.putfield 7, 3) := by decide +kernel
theorem d_Mo_init_12 : decode b_Mo_init 12 = .ok (.aload_n 0, 1) := by decide +kernel
theorem d_Mo_init_13 : decode b_Mo_init 13 = .ok (.bipush 120, 2) := by decide +kernel
theorem d_Mo_init_15 : decode b_Mo_init 15 = .ok (.newarray .int, 2) := by decide +kernel
theorem d_Mo_init_17 : decode b_Mo_init 17 = .ok (.putfield 13, 3) := by decide +kernel
theorem d_Mo_init_20 : decode b_Mo_init 20 = .ok (.aload_n 0, 1) := by decide +kernel
theorem d_Mo_init_21 : decode b_Mo_init 21 = .ok (.bipush 120, 2) := by decide +kernel
theorem d_Mo_init_23 : decode b_Mo_init 23 = .ok (.newarray .int, 2) := by decide +kernel
theorem d_Mo_init_25 : decode b_Mo_init 25 = .ok (.putfield 16, 3) := by decide +kernel
theorem d_Mo_init_28 : decode b_Mo_init 28 = .ok (.aload_n 0, 1) := by decide +kernel
theorem d_Mo_init_29 : decode b_Mo_init 29 = .ok (.bipush 120, 2) := by decide +kernel
theorem d_Mo_init_31 : decode b_Mo_init 31 = .ok (.newarray .int, 2) := by decide +kernel
theorem d_Mo_init_33 : decode b_Mo_init 33 = .ok (.putfield 19, 3) := by decide +kernel
theorem d_Mo_init_36 : decode b_Mo_init 36 = .ok (.aload_n 0, 1) := by decide +kernel
theorem d_Mo_init_37 : decode b_Mo_init 37 = .ok (.iconst 5, 1) := by decide +kernel
theorem d_Mo_init_38 : decode b_Mo_init 38 = .ok (.newarray .int, 2) := by decide +kernel
theorem d_Mo_init_40 : decode b_Mo_init 40 = .ok (.putfield 22, 3) := by decide +kernel
theorem d_Mo_init_43 : decode b_Mo_init 43 = .ok (.aload_n 0, 1) := by decide +kernel
theorem d_Mo_init_44 : decode b_Mo_init 44 = .ok (.bipush 120, 2) := by decide +kernel
theorem d_Mo_init_46 : decode b_Mo_init 46 = .ok (.newarray .int, 2) := by decide +kernel
theorem d_Mo_init_48 : decode b_Mo_init 48 = .ok (.putfield 25, 3) := by decide +kernel
theorem d_Mo_init_51 : decode b_Mo_init 51 = .ok (.aload_n 0, 1) := by decide +kernel
theorem d_Mo_init_52 : decode b_Mo_init 52 = .ok (.bipush 120, 2) := by decide +kernel
theorem d_Mo_init_54 : decode b_Mo_init 54 = .ok (.newarray .int, 2) := by decide +kernel
theorem d_Mo_init_56 : decode b_Mo_init 56 = .ok (.putfield 28, 3) := by decide +kernel
theorem d_Mo_init_59 : decode b_Mo_init 59 = .ok (.aload_n 0, 1) := by decide +kernel
theorem d_Mo_init_60 : decode b_Mo_init 60 = .ok (.sipush 128, 3) := by decide +kernel
theorem d_Mo_init_63 : decode b_Mo_init 63 = .ok (.newarray .int, 2) := by decide +kernel
theorem d_Mo_init_65 : decode b_Mo_init 65 = .ok (.putfield 31, 3) := by decide +kernel
theorem d_Mo_init_68 : decode b_Mo_init 68 = .ok (.aload_n 0, 1) := by decide +kernel
theorem d_Mo_init_69 : decode b_Mo_init 69 = .ok (.bipush 30, 2) := by decide +kernel
theorem d_Mo_init_71 : decode b_Mo_init 71 = .ok (.newarray .int, 2) := by decide +kernel
theorem d_Mo_init_73 : decode b_Mo_init 73 = .ok (.putfield 34, 3) := by decide +kernel
theorem d_Mo_init_76 : decode b_Mo_init 76 = .ok (.aload_n 0, 1) := by decide +kernel
theorem d_Mo_init_77 : decode b_Mo_init 77 = .ok (.bipush 30, 2) := by decide +kernel
theorem d_Mo_init_79 : decode b_Mo_init 79 = .ok (.newarray .int, 2) := by decide +kernel
theorem d_Mo_init_81 : decode b_Mo_init 81 = .ok (.putfield 37, 3) := by decide +kernel
theorem d_Mo_init_84 : decode b_Mo_init 84 = .ok (.aload_n 0, 1) := by decide +kernel
theorem d_Mo_init_85 : decode b_Mo_init 85 = .ok (.bipush 30, 2) := by decide +kernel
theorem d_Mo_init_87 : decode b_Mo_init 87 = .ok (.newarray .int, 2) := by decide +kernel
theorem d_Mo_init_89 : decode b_Mo_init 89 = .ok (.putfield 40, 3) := by decide +kernel
theorem d_Mo_init_92 : decode b_Mo_init 92 = .ok (.aload_n 0, 1) := by decide +kernel
theorem d_Mo_init_93 : decode b_Mo_init 93 = .ok (.bipush 10, 2) := by decide +kernel
theorem d_Mo_init_95 : decode b_Mo_init 95 = .ok (.newarray .int, 2) := by decide +kernel
theorem d_Mo_init_97 : decode b_Mo_init 97 = .ok (.putfield 43, 3) := by decide +kernel
theorem d_Mo_init_100 : decode b_Mo_init 100 = .ok (.aload_n 0, 1) := by decide +kernel
theorem d_Mo_init_101 : decode b_Mo_init 101 = .ok (.bipush 30, 2) := by decide +kernel
theorem d_Mo_init_103 : decode b_Mo_init 103 = .ok (.newarray .boolean, 2) := by decide +kernel
theorem d_Mo_init_105 : decode b_Mo_init 105 = .ok (.putfield 46, 3) := by decide +kernel
theorem d_Mo_init_108 : decode b_Mo_init 108 = .ok (.return_, 1) := by decide +kernel
theorem d_Mo_thrown_0 : decode b_Mo_thrown 0 = .ok (.aload_n 0, 1) := by decide +kernel
theorem d_Mo_thrown_1 : decode b_Mo_thrown 1 = .ok (.getfield 50, 3) := by decide +kernel
theorem d_Mo_thrown_4 : decode b_Mo_thrown 4 = .ok (.ireturn, 1) := by decide +kernel
theorem d_Mo_zero_0 : decode b_Mo_zero 0 = .ok (.aload_n 0, 1) := by decide +kernel
theorem d_Mo_zero_1 : decode b_Mo_zero 1 = .ok (.iconst 0, 1) := by decide +kernel
theorem d_Mo_zero_2 : decode b_Mo_zero 2 = .ok (.iconst (-1), 1) := by decide +kernel
theorem d_Mo_zero_3 : decode b_Mo_zero 3 = .ok (.iconst (-1), 1) := by decide +kernel
theorem d_Mo_zero_4 : decode b_Mo_zero 4 = .ok (.iconst 1, 1) := by decide +kernel
theorem d_Mo_zero_5 : decode b_Mo_zero 5 = .ok (.invokevirtual 61, 3) := by decide +kernel
theorem d_Mo_zero_8 : decode b_Mo_zero 8 = .ok (.ireturn, 1) := by decide +kernel
theorem d_Mo_made_0 : decode b_Mo_made 0 = .ok (.aload_n 0, 1) := by decide +kernel
theorem d_Mo_made_1 : decode b_Mo_made 1 = .ok (.iload_n 1, 1) := by decide +kernel
theorem d_Mo_made_2 : decode b_Mo_made 2 = .ok (.iload_n 2, 1) := by decide +kernel
theorem d_Mo_made_3 : decode b_Mo_made 3 = .ok (.iload_n 3, 1) := by decide +kernel
theorem d_Mo_made_4 : decode b_Mo_made 4 = .ok (.invokevirtual 57, 3) := by decide +kernel
theorem d_Mo_made_7 : decode b_Mo_made 7 = .ok (.istore 5, 2) := by decide +kernel
theorem d_Mo_made_9 : decode b_Mo_made 9 = .ok (.aload_n 0, 1) := by decide +kernel
theorem d_Mo_made_10 : decode b_Mo_made 10 = .ok (.iload 5, 2) := by decide +kernel
theorem d_Mo_made_12 : decode b_Mo_made 12 = .ok (.iconst (-1), 1) := by decide +kernel
theorem d_Mo_made_13 : decode b_Mo_made 13 = .ok (.if_icmp .ne 8, 3) := by decide +kernel
theorem d_Mo_made_16 : decode b_Mo_made 16 = .ok (.iload 4, 2) := by decide +kernel
theorem d_Mo_made_18 : decode b_Mo_made 18 = .ok (.goto 4, 3) := by decide +kernel
theorem d_Mo_made_21 : decode b_Mo_made 21 = .ok (.iconst 0, 1) := by decide +kernel
theorem d_Mo_made_22 : decode b_Mo_made 22 = .ok (.putfield 50, 3) := by decide +kernel
theorem d_Mo_made_25 : decode b_Mo_made 25 = .ok (.iload 5, 2) := by decide +kernel
theorem d_Mo_made_27 : decode b_Mo_made 27 = .ok (.iconst (-1), 1) := by decide +kernel
theorem d_Mo_made_28 : decode b_Mo_made 28 = .ok (.if_icmp .ne 7, 3) := by decide +kernel
theorem d_Mo_made_31 : decode b_Mo_made 31 = .ok (.iconst 0, 1) := by decide +kernel
theorem d_Mo_made_32 : decode b_Mo_made 32 = .ok (.goto 5, 3) := by decide +kernel
theorem d_Mo_made_35 : decode b_Mo_made 35 = .ok (.iload 5, 2) := by decide +kernel
theorem d_Mo_made_37 : decode b_Mo_made 37 = .ok (.ireturn, 1) := by decide +kernel
theorem d_Mo_make_0 : decode b_Mo_make 0 = .ok (.iconst 0, 1) := by decide +kernel
theorem d_Mo_make_1 : decode b_Mo_make 1 = .ok (.istore 4, 2) := by decide +kernel
theorem d_Mo_make_3 : decode b_Mo_make 3 = .ok (.iload 4, 2) := by decide +kernel
theorem d_Mo_make_5 : decode b_Mo_make 5 = .ok (.aload_n 0, 1) := by decide +kernel
theorem d_Mo_make_6 : decode b_Mo_make 6 = .ok (.getfield 54, 3) := by decide +kernel
theorem d_Mo_make_9 : decode b_Mo_make 9 = .ok (.if_icmp .ge 45, 3) := by decide +kernel
theorem d_Mo_make_12 : decode b_Mo_make 12 = .ok (.aload_n 0, 1) := by decide +kernel
theorem d_Mo_make_13 : decode b_Mo_make 13 = .ok (.getfield 7, 3) := by decide +kernel
theorem d_Mo_make_16 : decode b_Mo_make 16 = .ok (.iload 4, 2) := by decide +kernel
theorem d_Mo_make_18 : decode b_Mo_make 18 = .ok (.iaload, 1) := by decide +kernel
theorem d_Mo_make_19 : decode b_Mo_make 19 = .ok (.iload_n 1, 1) := by decide +kernel
theorem d_Mo_make_20 : decode b_Mo_make 20 = .ok (.if_icmp .ne 28, 3) := by decide +kernel
theorem d_Mo_make_23 : decode b_Mo_make 23 = .ok (.aload_n 0, 1) := by decide +kernel
theorem d_Mo_make_24 : decode b_Mo_make 24 = .ok (.getfield 13, 3) := by decide +kernel
theorem d_Mo_make_27 : decode b_Mo_make 27 = .ok (.iload 4, 2) := by decide +kernel
theorem d_Mo_make_29 : decode b_Mo_make 29 = .ok (.iaload, 1) := by decide +kernel
theorem d_Mo_make_30 : decode b_Mo_make 30 = .ok (.iload_n 2, 1) := by decide +kernel
theorem d_Mo_make_31 : decode b_Mo_make 31 = .ok (.if_icmp .ne 17, 3) := by decide +kernel
theorem d_Mo_make_34 : decode b_Mo_make 34 = .ok (.aload_n 0, 1) := by decide +kernel
theorem d_Mo_make_35 : decode b_Mo_make 35 = .ok (.getfield 16, 3) := by decide +kernel
theorem d_Mo_make_38 : decode b_Mo_make 38 = .ok (.iload 4, 2) := by decide +kernel
theorem d_Mo_make_40 : decode b_Mo_make 40 = .ok (.iaload, 1) := by decide +kernel
theorem d_Mo_make_41 : decode b_Mo_make 41 = .ok (.iload_n 3, 1) := by decide +kernel
theorem d_Mo_make_42 : decode b_Mo_make 42 = .ok (.if_icmp .ne 6, 3) := by decide +kernel
theorem d_Mo_make_45 : decode b_Mo_make 45 = .ok (.iload 4, 2) := by decide +kernel
theorem d_Mo_make_47 : decode b_Mo_make 47 = .ok (.ireturn, 1) := by decide +kernel
theorem d_Mo_make_48 : decode b_Mo_make 48 = .ok (.iinc 4 1, 3) := by decide +kernel
theorem d_Mo_make_51 : decode b_Mo_make 51 = .ok (.goto (-48), 3) := by decide +kernel
theorem d_Mo_make_54 : decode b_Mo_make 54 = .ok (.aload_n 0, 1) := by decide +kernel
theorem d_Mo_make_55 : decode b_Mo_make 55 = .ok (.getfield 54, 3) := by decide +kernel
theorem d_Mo_make_58 : decode b_Mo_make 58 = .ok (.bipush 120, 2) := by decide +kernel
theorem d_Mo_make_60 : decode b_Mo_make 60 = .ok (.if_icmp .ne 5, 3) := by decide +kernel
theorem d_Mo_make_63 : decode b_Mo_make 63 = .ok (.iconst (-1), 1) := by decide +kernel
theorem d_Mo_make_64 : decode b_Mo_make 64 = .ok (.ireturn, 1) := by decide +kernel
theorem d_Mo_make_65 : decode b_Mo_make 65 = .ok (.iload_n 1, 1) := by decide +kernel
theorem d_Mo_make_66 : decode b_Mo_make 66 = .ok (.iconst 2, 1) := by decide +kernel
theorem d_Mo_make_67 : decode b_Mo_make 67 = .ok (.if_icmp .ge 7, 3) := by decide +kernel
theorem d_Mo_make_70 : decode b_Mo_make 70 = .ok (.iconst 0, 1) := by decide +kernel
theorem d_Mo_make_71 : decode b_Mo_make 71 = .ok (.goto 49, 3) := by decide +kernel
theorem d_Mo_make_74 : decode b_Mo_make 74 = .ok (.iload_n 1, 1) := by decide +kernel
theorem d_Mo_make_75 : decode b_Mo_make 75 = .ok (.iconst 2, 1) := by decide +kernel
theorem d_Mo_make_76 : decode b_Mo_make 76 = .ok (.if_icmp .ne 14, 3) := by decide +kernel
theorem d_Mo_make_79 : decode b_Mo_make 79 = .ok (.aload_n 0, 1) := by decide +kernel
theorem d_Mo_make_80 : decode b_Mo_make 80 = .ok (.getfield 19, 3) := by decide +kernel
theorem d_Mo_make_83 : decode b_Mo_make 83 = .ok (.iload_n 2, 1) := by decide +kernel
theorem d_Mo_make_84 : decode b_Mo_make 84 = .ok (.iaload, 1) := by decide +kernel
theorem d_Mo_make_85 : decode b_Mo_make 85 = .ok (.iconst 1, 1) := by decide +kernel
theorem d_Mo_make_86 : decode b_Mo_make 86 = .ok (.iadd, 1) := by decide +kernel
theorem d_Mo_make_87 : decode b_Mo_make 87 = .ok (.goto 33, 3) := by decide +kernel
theorem d_Mo_make_90 : decode b_Mo_make 90 = .ok (.aload_n 0, 1) := by decide +kernel
theorem d_Mo_make_91 : decode b_Mo_make 91 = .ok (.getfield 19, 3) := by decide +kernel
theorem d_Mo_make_94 : decode b_Mo_make 94 = .ok (.iload_n 2, 1) := by decide +kernel
theorem d_Mo_make_95 : decode b_Mo_make 95 = .ok (.iaload, 1) := by decide +kernel
theorem d_Mo_make_96 : decode b_Mo_make 96 = .ok (.aload_n 0, 1) := by decide +kernel
theorem d_Mo_make_97 : decode b_Mo_make 97 = .ok (.getfield 19, 3) := by decide +kernel
theorem d_Mo_make_100 : decode b_Mo_make 100 = .ok (.iload_n 3, 1) := by decide +kernel
theorem d_Mo_make_101 : decode b_Mo_make 101 = .ok (.iaload, 1) := by decide +kernel
theorem d_Mo_make_102 : decode b_Mo_make 102 = .ok (.if_icmp .le 12, 3) := by decide +kernel
theorem d_Mo_make_105 : decode b_Mo_make 105 = .ok (.aload_n 0, 1) := by decide +kernel
theorem d_Mo_make_106 : decode b_Mo_make 106 = .ok (.getfield 19, 3) := by decide +kernel
theorem d_Mo_make_109 : decode b_Mo_make 109 = .ok (.iload_n 2, 1) := by decide +kernel
theorem d_Mo_make_110 : decode b_Mo_make 110 = .ok (.iaload, 1) := by decide +kernel
theorem d_Mo_make_111 : decode b_Mo_make 111 = .ok (.goto 9, 3) := by decide +kernel
theorem d_Mo_make_114 : decode b_Mo_make 114 = .ok (.aload_n 0, 1) := by decide +kernel
theorem d_Mo_make_115 : decode b_Mo_make 115 = .ok (.getfield 19, 3) := by decide +kernel
theorem d_Mo_make_118 : decode b_Mo_make 118 = .ok (.iload_n 3, 1) := by decide +kernel
theorem d_Mo_make_119 : decode b_Mo_make 119 = .ok (.iaload, 1) := by decide +kernel
theorem d_Mo_make_120 : decode b_Mo_make 120 = .ok (.istore 4, 2) := by decide +kernel
theorem d_Mo_make_122 : decode b_Mo_make 122 = .ok (.aload_n 0, 1) := by decide +kernel
theorem d_Mo_make_123 : decode b_Mo_make 123 = .ok (.getfield 7, 3) := by decide +kernel
theorem d_Mo_make_126 : decode b_Mo_make 126 = .ok (.aload_n 0, 1) := by decide +kernel
theorem d_Mo_make_127 : decode b_Mo_make 127 = .ok (.getfield 54, 3) := by decide +kernel
theorem d_Mo_make_130 : decode b_Mo_make 130 = .ok (.iload_n 1, 1) := by decide +kernel
theorem d_Mo_make_131 : decode b_Mo_make 131 = .ok (.iastore, 1) := by decide +kernel
theorem d_Mo_make_132 : decode b_Mo_make 132 = .ok (.aload_n 0, 1) := by decide +kernel
theorem d_Mo_make_133 : decode b_Mo_make 133 = .ok (.getfield 13, 3) := by decide +kernel
theorem d_Mo_make_136 : decode b_Mo_make 136 = .ok (.aload_n 0, 1) := by decide +kernel
theorem d_Mo_make_137 : decode b_Mo_make 137 = .ok (.getfield 54, 3) := by decide +kernel
theorem d_Mo_make_140 : decode b_Mo_make 140 = .ok (.iload_n 2, 1) := by decide +kernel
theorem d_Mo_make_141 : decode b_Mo_make 141 = .ok (.iastore, 1) := by decide +kernel
theorem d_Mo_make_142 : decode b_Mo_make 142 = .ok (.aload_n 0, 1) := by decide +kernel
theorem d_Mo_make_143 : decode b_Mo_make 143 = .ok (.getfield 16, 3) := by decide +kernel
theorem d_Mo_make_146 : decode b_Mo_make 146 = .ok (.aload_n 0, 1) := by decide +kernel
theorem d_Mo_make_147 : decode b_Mo_make 147 = .ok (.getfield 54, 3) := by decide +kernel
theorem d_Mo_make_150 : decode b_Mo_make 150 = .ok (.iload_n 3, 1) := by decide +kernel
theorem d_Mo_make_151 : decode b_Mo_make 151 = .ok (.iastore, 1) := by decide +kernel
theorem d_Mo_make_152 : decode b_Mo_make 152 = .ok (.aload_n 0, 1) := by decide +kernel
theorem d_Mo_make_153 : decode b_Mo_make 153 = .ok (.getfield 19, 3) := by decide +kernel
theorem d_Mo_make_156 : decode b_Mo_make 156 = .ok (.aload_n 0, 1) := by decide +kernel
theorem d_Mo_make_157 : decode b_Mo_make 157 = .ok (.getfield 54, 3) := by decide +kernel
theorem d_Mo_make_160 : decode b_Mo_make 160 = .ok (.iload 4, 2) := by decide +kernel
theorem d_Mo_make_162 : decode b_Mo_make 162 = .ok (.iastore, 1) := by decide +kernel
theorem d_Mo_make_163 : decode b_Mo_make 163 = .ok (.aload_n 0, 1) := by decide +kernel
theorem d_Mo_make_164 : decode b_Mo_make 164 = .ok (.dup, 1) := by decide +kernel
theorem d_Mo_make_165 : decode b_Mo_make 165 = .ok (.getfield 54, 3) := by decide +kernel
theorem d_Mo_make_168 : decode b_Mo_make 168 = .ok (.iconst 1, 1) := by decide +kernel
theorem d_Mo_make_169 : decode b_Mo_make 169 = .ok (.iadd, 1) := by decide +kernel
theorem d_Mo_make_170 : decode b_Mo_make 170 = .ok (.putfield 54, 3) := by decide +kernel
theorem d_Mo_make_173 : decode b_Mo_make 173 = .ok (.aload_n 0, 1) := by decide +kernel
theorem d_Mo_make_174 : decode b_Mo_make 174 = .ok (.getfield 54, 3) := by decide +kernel
theorem d_Mo_make_177 : decode b_Mo_make 177 = .ok (.iconst 1, 1) := by decide +kernel
theorem d_Mo_make_178 : decode b_Mo_make 178 = .ok (.isub, 1) := by decide +kernel
theorem d_Mo_make_179 : decode b_Mo_make 179 = .ok (.ireturn, 1) := by decide +kernel
theorem d_Mo_parameter_0 : decode b_Mo_parameter 0 = .ok (.aload_n 0, 1) := by decide +kernel
theorem d_Mo_parameter_1 : decode b_Mo_parameter 1 = .ok (.iload_n 1, 1) := by decide +kernel
theorem d_Mo_parameter_2 : decode b_Mo_parameter 2 = .ok (.ifCond .lt 8, 3) := by decide +kernel
theorem d_Mo_parameter_5 : decode b_Mo_parameter 5 = .ok (.iload_n 1, 1) := by decide +kernel
theorem d_Mo_parameter_6 : decode b_Mo_parameter 6 = .ok (.iconst 5, 1) := by decide +kernel
theorem d_Mo_parameter_7 : decode b_Mo_parameter 7 = .ok (.if_icmp .lt 7, 3) := by decide +kernel
theorem d_Mo_parameter_10 : decode b_Mo_parameter 10 = .ok (.iconst 1, 1) := by decide +kernel
theorem d_Mo_parameter_11 : decode b_Mo_parameter 11 = .ok (.goto 4, 3) := by decide +kernel
theorem d_Mo_parameter_14 : decode b_Mo_parameter 14 = .ok (.iconst 0, 1) := by decide +kernel
theorem d_Mo_parameter_15 : decode b_Mo_parameter 15 = .ok (.invokevirtual 65, 3) := by decide +kernel
theorem d_Mo_parameter_18 : decode b_Mo_parameter 18 = .ok (.ifCond .eq 5, 3) := by decide +kernel
theorem d_Mo_parameter_21 : decode b_Mo_parameter 21 = .ok (.iconst 0, 1) := by decide +kernel
theorem d_Mo_parameter_22 : decode b_Mo_parameter 22 = .ok (.ireturn, 1) := by decide +kernel
theorem d_Mo_parameter_23 : decode b_Mo_parameter 23 = .ok (.aload_n 0, 1) := by decide +kernel
theorem d_Mo_parameter_24 : decode b_Mo_parameter 24 = .ok (.iconst 1, 1) := by decide +kernel
theorem d_Mo_parameter_25 : decode b_Mo_parameter 25 = .ok (.iload_n 1, 1) := by decide +kernel
theorem d_Mo_parameter_26 : decode b_Mo_parameter 26 = .ok (.iconst (-1), 1) := by decide +kernel
theorem d_Mo_parameter_27 : decode b_Mo_parameter 27 = .ok (.iconst 2, 1) := by decide +kernel
theorem d_Mo_parameter_28 : decode b_Mo_parameter 28 = .ok (.invokevirtual 61, 3) := by decide +kernel
theorem d_Mo_parameter_31 : decode b_Mo_parameter 31 = .ok (.ireturn, 1) := by decide +kernel
theorem d_Mo_refuses_0 : decode b_Mo_refuses 0 = .ok (.aload_n 0, 1) := by decide +kernel
theorem d_Mo_refuses_1 : decode b_Mo_refuses 1 = .ok (.iload_n 1, 1) := by decide +kernel
theorem d_Mo_refuses_2 : decode b_Mo_refuses 2 = .ok (.putfield 50, 3) := by decide +kernel
theorem d_Mo_refuses_5 : decode b_Mo_refuses 5 = .ok (.iload_n 1, 1) := by decide +kernel
theorem d_Mo_refuses_6 : decode b_Mo_refuses 6 = .ok (.ifCond .le 7, 3) := by decide +kernel
theorem d_Mo_refuses_9 : decode b_Mo_refuses 9 = .ok (.iconst 1, 1) := by decide +kernel
theorem d_Mo_refuses_10 : decode b_Mo_refuses 10 = .ok (.goto 4, 3) := by decide +kernel
theorem d_Mo_refuses_13 : decode b_Mo_refuses 13 = .ok (.iconst 0, 1) := by decide +kernel
theorem d_Mo_refuses_14 : decode b_Mo_refuses 14 = .ok (.ireturn, 1) := by decide +kernel
theorem d_Mo_next_0 : decode b_Mo_next 0 = .ok (.aload_n 0, 1) := by decide +kernel
theorem d_Mo_next_1 : decode b_Mo_next 1 = .ok (.aload_n 0, 1) := by decide +kernel
theorem d_Mo_next_2 : decode b_Mo_next 2 = .ok (.iload_n 1, 1) := by decide +kernel
theorem d_Mo_next_3 : decode b_Mo_next 3 = .ok (.invokevirtual 69, 3) := by decide +kernel
theorem d_Mo_next_6 : decode b_Mo_next 6 = .ok (.ifCond .ne 7, 3) := by decide +kernel
theorem d_Mo_next_9 : decode b_Mo_next 9 = .ok (.iconst 1, 1) := by decide +kernel
theorem d_Mo_next_10 : decode b_Mo_next 10 = .ok (.goto 19, 3) := by decide +kernel
theorem d_Mo_next_13 : decode b_Mo_next 13 = .ok (.aload_n 0, 1) := by decide +kernel
theorem d_Mo_next_14 : decode b_Mo_next 14 = .ok (.getfield 19, 3) := by decide +kernel
theorem d_Mo_next_17 : decode b_Mo_next 17 = .ok (.iload_n 1, 1) := by decide +kernel
theorem d_Mo_next_18 : decode b_Mo_next 18 = .ok (.iaload, 1) := by decide +kernel
theorem d_Mo_next_19 : decode b_Mo_next 19 = .ok (.bipush 60, 2) := by decide +kernel
theorem d_Mo_next_21 : decode b_Mo_next 21 = .ok (.if_icmp .ne 7, 3) := by decide +kernel
theorem d_Mo_next_24 : decode b_Mo_next 24 = .ok (.iconst 2, 1) := by decide +kernel
theorem d_Mo_next_25 : decode b_Mo_next 25 = .ok (.goto 4, 3) := by decide +kernel
theorem d_Mo_next_28 : decode b_Mo_next 28 = .ok (.iconst 0, 1) := by decide +kernel
theorem d_Mo_next_29 : decode b_Mo_next 29 = .ok (.invokevirtual 65, 3) := by decide +kernel
theorem d_Mo_next_32 : decode b_Mo_next 32 = .ok (.ifCond .eq 5, 3) := by decide +kernel
theorem d_Mo_next_35 : decode b_Mo_next 35 = .ok (.iconst 0, 1) := by decide +kernel
theorem d_Mo_next_36 : decode b_Mo_next 36 = .ok (.ireturn, 1) := by decide +kernel
theorem d_Mo_next_37 : decode b_Mo_next 37 = .ok (.aload_n 0, 1) := by decide +kernel
theorem d_Mo_next_38 : decode b_Mo_next 38 = .ok (.iconst 2, 1) := by decide +kernel
theorem d_Mo_next_39 : decode b_Mo_next 39 = .ok (.iload_n 1, 1) := by decide +kernel
theorem d_Mo_next_40 : decode b_Mo_next 40 = .ok (.iconst (-1), 1) := by decide +kernel
theorem d_Mo_next_41 : decode b_Mo_next 41 = .ok (.iconst 3, 1) := by decide +kernel
theorem d_Mo_next_42 : decode b_Mo_next 42 = .ok (.invokevirtual 61, 3) := by decide +kernel
theorem d_Mo_next_45 : decode b_Mo_next 45 = .ok (.ireturn, 1) := by decide +kernel
theorem d_Mo_isLevel_0 : decode b_Mo_isLevel 0 = .ok (.iload_n 1, 1) := by decide +kernel
theorem d_Mo_isLevel_1 : decode b_Mo_isLevel 1 = .ok (.ifCond .lt 15, 3) := by decide +kernel
theorem d_Mo_isLevel_4 : decode b_Mo_isLevel 4 = .ok (.iload_n 1, 1) := by decide +kernel
theorem d_Mo_isLevel_5 : decode b_Mo_isLevel 5 = .ok (.aload_n 0, 1) := by decide +kernel
theorem d_Mo_isLevel_6 : decode b_Mo_isLevel 6 = .ok (.getfield 54, 3) := by decide +kernel
theorem d_Mo_isLevel_9 : decode b_Mo_isLevel 9 = .ok (.if_icmp .ge 7, 3) := by decide +kernel
theorem d_Mo_isLevel_12 : decode b_Mo_isLevel 12 = .ok (.iconst 1, 1) := by decide +kernel
theorem d_Mo_isLevel_13 : decode b_Mo_isLevel 13 = .ok (.goto 4, 3) := by decide +kernel
theorem d_Mo_isLevel_16 : decode b_Mo_isLevel 16 = .ok (.iconst 0, 1) := by decide +kernel
theorem d_Mo_isLevel_17 : decode b_Mo_isLevel 17 = .ok (.ireturn, 1) := by decide +kernel
theorem d_Mo_join_0 : decode b_Mo_join 0 = .ok (.aload_n 0, 1) := by decide +kernel
theorem d_Mo_join_1 : decode b_Mo_join 1 = .ok (.aload_n 0, 1) := by decide +kernel
theorem d_Mo_join_2 : decode b_Mo_join 2 = .ok (.iload_n 1, 1) := by decide +kernel
theorem d_Mo_join_3 : decode b_Mo_join 3 = .ok (.invokevirtual 69, 3) := by decide +kernel
theorem d_Mo_join_6 : decode b_Mo_join 6 = .ok (.ifCond .eq 11, 3) := by decide +kernel
theorem d_Mo_join_9 : decode b_Mo_join 9 = .ok (.aload_n 0, 1) := by decide +kernel
theorem d_Mo_join_10 : decode b_Mo_join 10 = .ok (.iload_n 2, 1) := by decide +kernel
theorem d_Mo_join_11 : decode b_Mo_join 11 = .ok (.invokevirtual 69, 3) := by decide +kernel
theorem d_Mo_join_14 : decode b_Mo_join 14 = .ok (.ifCond .ne 7, 3) := by decide +kernel
theorem d_Mo_join_17 : decode b_Mo_join 17 = .ok (.iconst 1, 1) := by decide +kernel
theorem d_Mo_join_18 : decode b_Mo_join 18 = .ok (.goto 4, 3) := by decide +kernel
theorem d_Mo_join_21 : decode b_Mo_join 21 = .ok (.iconst 0, 1) := by decide +kernel
theorem d_Mo_join_22 : decode b_Mo_join 22 = .ok (.invokevirtual 65, 3) := by decide +kernel
theorem d_Mo_join_25 : decode b_Mo_join 25 = .ok (.ifCond .eq 5, 3) := by decide +kernel
theorem d_Mo_join_28 : decode b_Mo_join 28 = .ok (.iconst 0, 1) := by decide +kernel
theorem d_Mo_join_29 : decode b_Mo_join 29 = .ok (.ireturn, 1) := by decide +kernel
theorem d_Mo_join_30 : decode b_Mo_join 30 = .ok (.aload_n 0, 1) := by decide +kernel
theorem d_Mo_join_31 : decode b_Mo_join 31 = .ok (.iload_n 3, 1) := by decide +kernel
theorem d_Mo_join_32 : decode b_Mo_join 32 = .ok (.ifCond .eq 7, 3) := by decide +kernel
theorem d_Mo_join_35 : decode b_Mo_join 35 = .ok (.iconst 4, 1) := by decide +kernel
theorem d_Mo_join_36 : decode b_Mo_join 36 = .ok (.goto 4, 3) := by decide +kernel
theorem d_Mo_join_39 : decode b_Mo_join 39 = .ok (.iconst 3, 1) := by decide +kernel
theorem d_Mo_join_40 : decode b_Mo_join 40 = .ok (.iload_n 1, 1) := by decide +kernel
theorem d_Mo_join_41 : decode b_Mo_join 41 = .ok (.iload_n 2, 1) := by decide +kernel
theorem d_Mo_join_42 : decode b_Mo_join 42 = .ok (.iconst 2, 1) := by decide +kernel
theorem d_Mo_join_43 : decode b_Mo_join 43 = .ok (.invokevirtual 61, 3) := by decide +kernel
theorem d_Mo_join_46 : decode b_Mo_join 46 = .ok (.ireturn, 1) := by decide +kernel
theorem d_Mo_level_0 : decode b_Mo_level 0 = .ok (.aload_n 0, 1) := by decide +kernel
theorem d_Mo_level_1 : decode b_Mo_level 1 = .ok (.iconst 0, 1) := by decide +kernel
theorem d_Mo_level_2 : decode b_Mo_level 2 = .ok (.putfield 50, 3) := by decide +kernel
theorem d_Mo_level_5 : decode b_Mo_level 5 = .ok (.aload_n 0, 1) := by decide +kernel
theorem d_Mo_level_6 : decode b_Mo_level 6 = .ok (.iload_n 1, 1) := by decide +kernel
theorem d_Mo_level_7 : decode b_Mo_level 7 = .ok (.invokevirtual 69, 3) := by decide +kernel
theorem d_Mo_level_10 : decode b_Mo_level 10 = .ok (.ifCond .eq 12, 3) := by decide +kernel
theorem d_Mo_level_13 : decode b_Mo_level 13 = .ok (.iload_n 2, 1) := by decide +kernel
theorem d_Mo_level_14 : decode b_Mo_level 14 = .ok (.ifCond .lt 8, 3) := by decide +kernel
theorem d_Mo_level_17 : decode b_Mo_level 17 = .ok (.iload_n 2, 1) := by decide +kernel
theorem d_Mo_level_18 : decode b_Mo_level 18 = .ok (.iconst 2, 1) := by decide +kernel
theorem d_Mo_level_19 : decode b_Mo_level 19 = .ok (.if_icmp .le 5, 3) := by decide +kernel
theorem d_Mo_level_22 : decode b_Mo_level 22 = .ok (.iconst (-1), 1) := by decide +kernel
theorem d_Mo_level_23 : decode b_Mo_level 23 = .ok (.ireturn, 1) := by decide +kernel
theorem d_Mo_level_24 : decode b_Mo_level 24 = .ok (.iload_n 2, 1) := by decide +kernel
theorem d_Mo_level_25 : decode b_Mo_level 25 = .ok (.ifCond .ne 12, 3) := by decide +kernel
theorem d_Mo_level_28 : decode b_Mo_level 28 = .ok (.aload_n 0, 1) := by decide +kernel
theorem d_Mo_level_29 : decode b_Mo_level 29 = .ok (.getfield 7, 3) := by decide +kernel
theorem d_Mo_level_32 : decode b_Mo_level 32 = .ok (.iload_n 1, 1) := by decide +kernel
theorem d_Mo_level_33 : decode b_Mo_level 33 = .ok (.iaload, 1) := by decide +kernel
theorem d_Mo_level_34 : decode b_Mo_level 34 = .ok (.goto 23, 3) := by decide +kernel
theorem d_Mo_level_37 : decode b_Mo_level 37 = .ok (.iload_n 2, 1) := by decide +kernel
theorem d_Mo_level_38 : decode b_Mo_level 38 = .ok (.iconst 1, 1) := by decide +kernel
theorem d_Mo_level_39 : decode b_Mo_level 39 = .ok (.if_icmp .ne 12, 3) := by decide +kernel
theorem d_Mo_level_42 : decode b_Mo_level 42 = .ok (.aload_n 0, 1) := by decide +kernel
theorem d_Mo_level_43 : decode b_Mo_level 43 = .ok (.getfield 13, 3) := by decide +kernel
theorem d_Mo_level_46 : decode b_Mo_level 46 = .ok (.iload_n 1, 1) := by decide +kernel
theorem d_Mo_level_47 : decode b_Mo_level 47 = .ok (.iaload, 1) := by decide +kernel
theorem d_Mo_level_48 : decode b_Mo_level 48 = .ok (.goto 9, 3) := by decide +kernel
theorem d_Mo_level_51 : decode b_Mo_level 51 = .ok (.aload_n 0, 1) := by decide +kernel
theorem d_Mo_level_52 : decode b_Mo_level 52 = .ok (.getfield 16, 3) := by decide +kernel
theorem d_Mo_level_55 : decode b_Mo_level 55 = .ok (.iload_n 1, 1) := by decide +kernel
theorem d_Mo_level_56 : decode b_Mo_level 56 = .ok (.iaload, 1) := by decide +kernel
theorem d_Mo_level_57 : decode b_Mo_level 57 = .ok (.ireturn, 1) := by decide +kernel
theorem d_Mo_put_0 : decode b_Mo_put 0 = .ok (.aload_n 0, 1) := by decide +kernel
theorem d_Mo_put_1 : decode b_Mo_put 1 = .ok (.aload_n 0, 1) := by decide +kernel
theorem d_Mo_put_2 : decode b_Mo_put 2 = .ok (.iload_n 1, 1) := by decide +kernel
theorem d_Mo_put_3 : decode b_Mo_put 3 = .ok (.invokevirtual 69, 3) := by decide +kernel
theorem d_Mo_put_6 : decode b_Mo_put 6 = .ok (.ifCond .eq 20, 3) := by decide +kernel
theorem d_Mo_put_9 : decode b_Mo_put 9 = .ok (.aload_n 0, 1) := by decide +kernel
theorem d_Mo_put_10 : decode b_Mo_put 10 = .ok (.iload_n 3, 1) := by decide +kernel
theorem d_Mo_put_11 : decode b_Mo_put 11 = .ok (.invokevirtual 69, 3) := by decide +kernel
theorem d_Mo_put_14 : decode b_Mo_put 14 = .ok (.ifCond .eq 12, 3) := by decide +kernel
theorem d_Mo_put_17 : decode b_Mo_put 17 = .ok (.iload_n 2, 1) := by decide +kernel
theorem d_Mo_put_18 : decode b_Mo_put 18 = .ok (.ifCond .lt 8, 3) := by decide +kernel
theorem d_Mo_put_21 : decode b_Mo_put 21 = .ok (.iload_n 2, 1) := by decide +kernel
theorem d_Mo_put_22 : decode b_Mo_put 22 = .ok (.iconst 5, 1) := by decide +kernel
theorem d_Mo_put_23 : decode b_Mo_put 23 = .ok (.if_icmp .lt 7, 3) := by decide +kernel
theorem d_Mo_put_26 : decode b_Mo_put 26 = .ok (.iconst 1, 1) := by decide +kernel
theorem d_Mo_put_27 : decode b_Mo_put 27 = .ok (.goto 4, 3) := by decide +kernel
theorem d_Mo_put_30 : decode b_Mo_put 30 = .ok (.iconst 0, 1) := by decide +kernel
theorem d_Mo_put_31 : decode b_Mo_put 31 = .ok (.invokevirtual 65, 3) := by decide +kernel
theorem d_Mo_put_34 : decode b_Mo_put 34 = .ok (.ifCond .eq 5, 3) := by decide +kernel
theorem d_Mo_put_37 : decode b_Mo_put 37 = .ok (.iconst 0, 1) := by decide +kernel
theorem d_Mo_put_38 : decode b_Mo_put 38 = .ok (.ireturn, 1) := by decide +kernel
theorem d_Mo_put_39 : decode b_Mo_put 39 = .ok (.iconst 0, 1) := by decide +kernel
theorem d_Mo_put_40 : decode b_Mo_put 40 = .ok (.istore 4, 2) := by decide +kernel
theorem d_Mo_put_42 : decode b_Mo_put 42 = .ok (.iload 4, 2) := by decide +kernel
theorem d_Mo_put_44 : decode b_Mo_put 44 = .ok (.bipush 120, 2) := by decide +kernel
theorem d_Mo_put_46 : decode b_Mo_put 46 = .ok (.if_icmp .ge 17, 3) := by decide +kernel
theorem d_Mo_put_49 : decode b_Mo_put 49 = .ok (.aload_n 0, 1) := by decide +kernel
theorem d_Mo_put_50 : decode b_Mo_put 50 = .ok (.getfield 28, 3) := by decide +kernel
theorem d_Mo_put_53 : decode b_Mo_put 53 = .ok (.iload 4, 2) := by decide +kernel
theorem d_Mo_put_55 : decode b_Mo_put 55 = .ok (.iconst (-1), 1) := by decide +kernel
theorem d_Mo_put_56 : decode b_Mo_put 56 = .ok (.iastore, 1) := by decide +kernel
theorem d_Mo_put_57 : decode b_Mo_put 57 = .ok (.iinc 4 1, 3) := by decide +kernel
theorem d_Mo_put_60 : decode b_Mo_put 60 = .ok (.goto (-18), 3) := by decide +kernel
theorem d_Mo_put_63 : decode b_Mo_put 63 = .ok (.iconst 1, 1) := by decide +kernel
theorem d_Mo_put_64 : decode b_Mo_put 64 = .ok (.istore 4, 2) := by decide +kernel
theorem d_Mo_put_66 : decode b_Mo_put 66 = .ok (.aload_n 0, 1) := by decide +kernel
theorem d_Mo_put_67 : decode b_Mo_put 67 = .ok (.getfield 31, 3) := by decide +kernel
theorem d_Mo_put_70 : decode b_Mo_put 70 = .ok (.iconst 0, 1) := by decide +kernel
theorem d_Mo_put_71 : decode b_Mo_put 71 = .ok (.iload_n 1, 1) := by decide +kernel
theorem d_Mo_put_72 : decode b_Mo_put 72 = .ok (.iastore, 1) := by decide +kernel
theorem d_Mo_put_73 : decode b_Mo_put 73 = .ok (.iload 4, 2) := by decide +kernel
theorem d_Mo_put_75 : decode b_Mo_put 75 = .ok (.ifCond .le 158, 3) := by decide +kernel
theorem d_Mo_put_78 : decode b_Mo_put 78 = .ok (.aload_n 0, 1) := by decide +kernel
theorem d_Mo_put_79 : decode b_Mo_put 79 = .ok (.getfield 31, 3) := by decide +kernel
theorem d_Mo_put_82 : decode b_Mo_put 82 = .ok (.iload 4, 2) := by decide +kernel
theorem d_Mo_put_84 : decode b_Mo_put 84 = .ok (.iconst 1, 1) := by decide +kernel
theorem d_Mo_put_85 : decode b_Mo_put 85 = .ok (.isub, 1) := by decide +kernel
theorem d_Mo_put_86 : decode b_Mo_put 86 = .ok (.iaload, 1) := by decide +kernel
theorem d_Mo_put_87 : decode b_Mo_put 87 = .ok (.istore 5, 2) := by decide +kernel
theorem d_Mo_put_89 : decode b_Mo_put 89 = .ok (.aload_n 0, 1) := by decide +kernel
theorem d_Mo_put_90 : decode b_Mo_put 90 = .ok (.getfield 7, 3) := by decide +kernel
theorem d_Mo_put_93 : decode b_Mo_put 93 = .ok (.iload 5, 2) := by decide +kernel
theorem d_Mo_put_95 : decode b_Mo_put 95 = .ok (.iaload, 1) := by decide +kernel
theorem d_Mo_put_96 : decode b_Mo_put 96 = .ok (.iconst 2, 1) := by decide +kernel
theorem d_Mo_put_97 : decode b_Mo_put 97 = .ok (.if_icmp .ge 7, 3) := by decide +kernel
theorem d_Mo_put_100 : decode b_Mo_put 100 = .ok (.iconst (-1), 1) := by decide +kernel
theorem d_Mo_put_101 : decode b_Mo_put 101 = .ok (.goto 10, 3) := by decide +kernel
theorem d_Mo_put_104 : decode b_Mo_put 104 = .ok (.aload_n 0, 1) := by decide +kernel
theorem d_Mo_put_105 : decode b_Mo_put 105 = .ok (.getfield 13, 3) := by decide +kernel
theorem d_Mo_put_108 : decode b_Mo_put 108 = .ok (.iload 5, 2) := by decide +kernel
theorem d_Mo_put_110 : decode b_Mo_put 110 = .ok (.iaload, 1) := by decide +kernel
theorem d_Mo_put_111 : decode b_Mo_put 111 = .ok (.istore 6, 2) := by decide +kernel
theorem d_Mo_put_113 : decode b_Mo_put 113 = .ok (.aload_n 0, 1) := by decide +kernel
theorem d_Mo_put_114 : decode b_Mo_put 114 = .ok (.getfield 7, 3) := by decide +kernel
theorem d_Mo_put_117 : decode b_Mo_put 117 = .ok (.iload 5, 2) := by decide +kernel
theorem d_Mo_put_119 : decode b_Mo_put 119 = .ok (.iaload, 1) := by decide +kernel
theorem d_Mo_put_120 : decode b_Mo_put 120 = .ok (.iconst 3, 1) := by decide +kernel
theorem d_Mo_put_121 : decode b_Mo_put 121 = .ok (.if_icmp .ge 7, 3) := by decide +kernel
theorem d_Mo_put_124 : decode b_Mo_put 124 = .ok (.iconst (-1), 1) := by decide +kernel
theorem d_Mo_put_125 : decode b_Mo_put 125 = .ok (.goto 10, 3) := by decide +kernel
theorem d_Mo_put_128 : decode b_Mo_put 128 = .ok (.aload_n 0, 1) := by decide +kernel
theorem d_Mo_put_129 : decode b_Mo_put 129 = .ok (.getfield 16, 3) := by decide +kernel
theorem d_Mo_put_132 : decode b_Mo_put 132 = .ok (.iload 5, 2) := by decide +kernel
theorem d_Mo_put_134 : decode b_Mo_put 134 = .ok (.iaload, 1) := by decide +kernel
theorem d_Mo_put_135 : decode b_Mo_put 135 = .ok (.istore 7, 2) := by decide +kernel
theorem d_Mo_put_137 : decode b_Mo_put 137 = .ok (.iload 6, 2) := by decide +kernel
theorem d_Mo_put_139 : decode b_Mo_put 139 = .ok (.ifCond .lt 29, 3) := by decide +kernel
theorem d_Mo_put_142 : decode b_Mo_put 142 = .ok (.aload_n 0, 1) := by decide +kernel
theorem d_Mo_put_143 : decode b_Mo_put 143 = .ok (.getfield 28, 3) := by decide +kernel
theorem d_Mo_put_146 : decode b_Mo_put 146 = .ok (.iload 6, 2) := by decide +kernel
theorem d_Mo_put_148 : decode b_Mo_put 148 = .ok (.iaload, 1) := by decide +kernel
theorem d_Mo_put_149 : decode b_Mo_put 149 = .ok (.iconst (-1), 1) := by decide +kernel
theorem d_Mo_put_150 : decode b_Mo_put 150 = .ok (.if_icmp .ne 18, 3) := by decide +kernel
theorem d_Mo_put_153 : decode b_Mo_put 153 = .ok (.aload_n 0, 1) := by decide +kernel
theorem d_Mo_put_154 : decode b_Mo_put 154 = .ok (.getfield 31, 3) := by decide +kernel
theorem d_Mo_put_157 : decode b_Mo_put 157 = .ok (.iload 4, 2) := by decide +kernel
theorem d_Mo_put_159 : decode b_Mo_put 159 = .ok (.iload 6, 2) := by decide +kernel
theorem d_Mo_put_161 : decode b_Mo_put 161 = .ok (.iastore, 1) := by decide +kernel
theorem d_Mo_put_162 : decode b_Mo_put 162 = .ok (.iinc 4 1, 3) := by decide +kernel
theorem d_Mo_put_165 : decode b_Mo_put 165 = .ok (.goto 56, 3) := by decide +kernel
theorem d_Mo_put_168 : decode b_Mo_put 168 = .ok (.iload 7, 2) := by decide +kernel
theorem d_Mo_put_170 : decode b_Mo_put 170 = .ok (.ifCond .lt 29, 3) := by decide +kernel
theorem d_Mo_put_173 : decode b_Mo_put 173 = .ok (.aload_n 0, 1) := by decide +kernel
theorem d_Mo_put_174 : decode b_Mo_put 174 = .ok (.getfield 28, 3) := by decide +kernel
theorem d_Mo_put_177 : decode b_Mo_put 177 = .ok (.iload 7, 2) := by decide +kernel
theorem d_Mo_put_179 : decode b_Mo_put 179 = .ok (.iaload, 1) := by decide +kernel
theorem d_Mo_put_180 : decode b_Mo_put 180 = .ok (.iconst (-1), 1) := by decide +kernel
theorem d_Mo_put_181 : decode b_Mo_put 181 = .ok (.if_icmp .ne 18, 3) := by decide +kernel
theorem d_Mo_put_184 : decode b_Mo_put 184 = .ok (.aload_n 0, 1) := by decide +kernel
theorem d_Mo_put_185 : decode b_Mo_put 185 = .ok (.getfield 31, 3) := by decide +kernel
theorem d_Mo_put_188 : decode b_Mo_put 188 = .ok (.iload 4, 2) := by decide +kernel
theorem d_Mo_put_190 : decode b_Mo_put 190 = .ok (.iload 7, 2) := by decide +kernel
theorem d_Mo_put_192 : decode b_Mo_put 192 = .ok (.iastore, 1) := by decide +kernel
theorem d_Mo_put_193 : decode b_Mo_put 193 = .ok (.iinc 4 1, 3) := by decide +kernel
theorem d_Mo_put_196 : decode b_Mo_put 196 = .ok (.goto 25, 3) := by decide +kernel
theorem d_Mo_put_199 : decode b_Mo_put 199 = .ok (.aload_n 0, 1) := by decide +kernel
theorem d_Mo_put_200 : decode b_Mo_put 200 = .ok (.getfield 28, 3) := by decide +kernel
theorem d_Mo_put_203 : decode b_Mo_put 203 = .ok (.iload 5, 2) := by decide +kernel
theorem d_Mo_put_205 : decode b_Mo_put 205 = .ok (.aload_n 0, 1) := by decide +kernel
theorem d_Mo_put_206 : decode b_Mo_put 206 = .ok (.iload 5, 2) := by decide +kernel
theorem d_Mo_put_208 : decode b_Mo_put 208 = .ok (.iload 6, 2) := by decide +kernel
theorem d_Mo_put_210 : decode b_Mo_put 210 = .ok (.iload 7, 2) := by decide +kernel
theorem d_Mo_put_212 : decode b_Mo_put 212 = .ok (.iload_n 2, 1) := by decide +kernel
theorem d_Mo_put_213 : decode b_Mo_put 213 = .ok (.iload_n 3, 1) := by decide +kernel
theorem d_Mo_put_214 : decode b_Mo_put 214 = .ok (.invokevirtual 72, 3) := by decide +kernel
theorem d_Mo_put_217 : decode b_Mo_put 217 = .ok (.iastore, 1) := by decide +kernel
theorem d_Mo_put_218 : decode b_Mo_put 218 = .ok (.iinc 4 (-1), 3) := by decide +kernel
theorem d_Mo_put_221 : decode b_Mo_put 221 = .ok (.aload_n 0, 1) := by decide +kernel
theorem d_Mo_put_222 : decode b_Mo_put 222 = .ok (.getfield 50, 3) := by decide +kernel
theorem d_Mo_put_225 : decode b_Mo_put 225 = .ok (.ifCond .le 5, 3) := by decide +kernel
theorem d_Mo_put_228 : decode b_Mo_put 228 = .ok (.iconst 0, 1) := by decide +kernel
theorem d_Mo_put_229 : decode b_Mo_put 229 = .ok (.ireturn, 1) := by decide +kernel
theorem d_Mo_put_230 : decode b_Mo_put 230 = .ok (.goto (-157), 3) := by decide +kernel
theorem d_Mo_put_233 : decode b_Mo_put 233 = .ok (.aload_n 0, 1) := by decide +kernel
theorem d_Mo_put_234 : decode b_Mo_put 234 = .ok (.getfield 28, 3) := by decide +kernel
theorem d_Mo_put_237 : decode b_Mo_put 237 = .ok (.iload_n 1, 1) := by decide +kernel
theorem d_Mo_put_238 : decode b_Mo_put 238 = .ok (.iaload, 1) := by decide +kernel
theorem d_Mo_put_239 : decode b_Mo_put 239 = .ok (.ireturn, 1) := by decide +kernel
theorem d_Mo_changed_0 : decode b_Mo_changed 0 = .ok (.aload_n 0, 1) := by decide +kernel
theorem d_Mo_changed_1 : decode b_Mo_changed 1 = .ok (.getfield 7, 3) := by decide +kernel
theorem d_Mo_changed_4 : decode b_Mo_changed 4 = .ok (.iload_n 1, 1) := by decide +kernel
theorem d_Mo_changed_5 : decode b_Mo_changed 5 = .ok (.iaload, 1) := by decide +kernel
theorem d_Mo_changed_6 : decode b_Mo_changed 6 = .ok (.iconst 2, 1) := by decide +kernel
theorem d_Mo_changed_7 : decode b_Mo_changed 7 = .ok (.if_icmp .ge 31, 3) := by decide +kernel
theorem d_Mo_changed_10 : decode b_Mo_changed 10 = .ok (.aload_n 0, 1) := by decide +kernel
theorem d_Mo_changed_11 : decode b_Mo_changed 11 = .ok (.getfield 7, 3) := by decide +kernel
theorem d_Mo_changed_14 : decode b_Mo_changed 14 = .ok (.iload_n 1, 1) := by decide +kernel
theorem d_Mo_changed_15 : decode b_Mo_changed 15 = .ok (.iaload, 1) := by decide +kernel
theorem d_Mo_changed_16 : decode b_Mo_changed 16 = .ok (.iconst 1, 1) := by decide +kernel
theorem d_Mo_changed_17 : decode b_Mo_changed 17 = .ok (.if_icmp .ne 19, 3) := by decide +kernel
theorem d_Mo_changed_20 : decode b_Mo_changed 20 = .ok (.aload_n 0, 1) := by decide +kernel
theorem d_Mo_changed_21 : decode b_Mo_changed 21 = .ok (.getfield 13, 3) := by decide +kernel
theorem d_Mo_changed_24 : decode b_Mo_changed 24 = .ok (.iload_n 1, 1) := by decide +kernel
theorem d_Mo_changed_25 : decode b_Mo_changed 25 = .ok (.iaload, 1) := by decide +kernel
theorem d_Mo_changed_26 : decode b_Mo_changed 26 = .ok (.iload 4, 2) := by decide +kernel
theorem d_Mo_changed_28 : decode b_Mo_changed 28 = .ok (.if_icmp .ne 8, 3) := by decide +kernel
theorem d_Mo_changed_31 : decode b_Mo_changed 31 = .ok (.iload 5, 2) := by decide +kernel
theorem d_Mo_changed_33 : decode b_Mo_changed 33 = .ok (.goto 4, 3) := by decide +kernel
theorem d_Mo_changed_36 : decode b_Mo_changed 36 = .ok (.iload_n 1, 1) := by decide +kernel
theorem d_Mo_changed_37 : decode b_Mo_changed 37 = .ok (.ireturn, 1) := by decide +kernel
theorem d_Mo_changed_38 : decode b_Mo_changed 38 = .ok (.aload_n 0, 1) := by decide +kernel
theorem d_Mo_changed_39 : decode b_Mo_changed 39 = .ok (.getfield 28, 3) := by decide +kernel
theorem d_Mo_changed_42 : decode b_Mo_changed 42 = .ok (.iload_n 2, 1) := by decide +kernel
theorem d_Mo_changed_43 : decode b_Mo_changed 43 = .ok (.iaload, 1) := by decide +kernel
theorem d_Mo_changed_44 : decode b_Mo_changed 44 = .ok (.istore 6, 2) := by decide +kernel
theorem d_Mo_changed_46 : decode b_Mo_changed 46 = .ok (.iload_n 3, 1) := by decide +kernel
theorem d_Mo_changed_47 : decode b_Mo_changed 47 = .ok (.ifCond .ge 7, 3) := by decide +kernel
theorem d_Mo_changed_50 : decode b_Mo_changed 50 = .ok (.iconst (-1), 1) := by decide +kernel
theorem d_Mo_changed_51 : decode b_Mo_changed 51 = .ok (.goto 9, 3) := by decide +kernel
theorem d_Mo_changed_54 : decode b_Mo_changed 54 = .ok (.aload_n 0, 1) := by decide +kernel
theorem d_Mo_changed_55 : decode b_Mo_changed 55 = .ok (.getfield 28, 3) := by decide +kernel
theorem d_Mo_changed_58 : decode b_Mo_changed 58 = .ok (.iload_n 3, 1) := by decide +kernel
theorem d_Mo_changed_59 : decode b_Mo_changed 59 = .ok (.iaload, 1) := by decide +kernel
theorem d_Mo_changed_60 : decode b_Mo_changed 60 = .ok (.istore 7, 2) := by decide +kernel
theorem d_Mo_changed_62 : decode b_Mo_changed 62 = .ok (.iload 6, 2) := by decide +kernel
theorem d_Mo_changed_64 : decode b_Mo_changed 64 = .ok (.iload_n 2, 1) := by decide +kernel
theorem d_Mo_changed_65 : decode b_Mo_changed 65 = .ok (.if_icmp .ne 11, 3) := by decide +kernel
theorem d_Mo_changed_68 : decode b_Mo_changed 68 = .ok (.iload 7, 2) := by decide +kernel
theorem d_Mo_changed_70 : decode b_Mo_changed 70 = .ok (.iload_n 3, 1) := by decide +kernel
theorem d_Mo_changed_71 : decode b_Mo_changed 71 = .ok (.if_icmp .ne 5, 3) := by decide +kernel
theorem d_Mo_changed_74 : decode b_Mo_changed 74 = .ok (.iload_n 1, 1) := by decide +kernel
theorem d_Mo_changed_75 : decode b_Mo_changed 75 = .ok (.ireturn, 1) := by decide +kernel
theorem d_Mo_changed_76 : decode b_Mo_changed 76 = .ok (.aload_n 0, 1) := by decide +kernel
theorem d_Mo_changed_77 : decode b_Mo_changed 77 = .ok (.getfield 7, 3) := by decide +kernel
theorem d_Mo_changed_80 : decode b_Mo_changed 80 = .ok (.iload_n 1, 1) := by decide +kernel
theorem d_Mo_changed_81 : decode b_Mo_changed 81 = .ok (.iaload, 1) := by decide +kernel
theorem d_Mo_changed_82 : decode b_Mo_changed 82 = .ok (.iconst 2, 1) := by decide +kernel
theorem d_Mo_changed_83 : decode b_Mo_changed 83 = .ok (.if_icmp .ne 22, 3) := by decide +kernel
theorem d_Mo_changed_86 : decode b_Mo_changed 86 = .ok (.aload_n 0, 1) := by decide +kernel
theorem d_Mo_changed_87 : decode b_Mo_changed 87 = .ok (.getfield 19, 3) := by decide +kernel
theorem d_Mo_changed_90 : decode b_Mo_changed 90 = .ok (.iload 6, 2) := by decide +kernel
theorem d_Mo_changed_92 : decode b_Mo_changed 92 = .ok (.iaload, 1) := by decide +kernel
theorem d_Mo_changed_93 : decode b_Mo_changed 93 = .ok (.bipush 60, 2) := by decide +kernel
theorem d_Mo_changed_95 : decode b_Mo_changed 95 = .ok (.if_icmp .ne 10, 3) := by decide +kernel
theorem d_Mo_changed_98 : decode b_Mo_changed 98 = .ok (.aload_n 0, 1) := by decide +kernel
theorem d_Mo_changed_99 : decode b_Mo_changed 99 = .ok (.iconst 2, 1) := by decide +kernel
theorem d_Mo_changed_100 : decode b_Mo_changed 100 = .ok (.putfield 50, 3) := by decide +kernel
theorem d_Mo_changed_103 : decode b_Mo_changed 103 = .ok (.iconst 0, 1) := by decide +kernel
theorem d_Mo_changed_104 : decode b_Mo_changed 104 = .ok (.ireturn, 1) := by decide +kernel
theorem d_Mo_changed_105 : decode b_Mo_changed 105 = .ok (.aload_n 0, 1) := by decide +kernel
theorem d_Mo_changed_106 : decode b_Mo_changed 106 = .ok (.aload_n 0, 1) := by decide +kernel
theorem d_Mo_changed_107 : decode b_Mo_changed 107 = .ok (.getfield 7, 3) := by decide +kernel
theorem d_Mo_changed_110 : decode b_Mo_changed 110 = .ok (.iload_n 1, 1) := by decide +kernel
theorem d_Mo_changed_111 : decode b_Mo_changed 111 = .ok (.iaload, 1) := by decide +kernel
theorem d_Mo_changed_112 : decode b_Mo_changed 112 = .ok (.iload 6, 2) := by decide +kernel
theorem d_Mo_changed_114 : decode b_Mo_changed 114 = .ok (.iload 7, 2) := by decide +kernel
theorem d_Mo_changed_116 : decode b_Mo_changed 116 = .ok (.iconst 3, 1) := by decide +kernel
theorem d_Mo_changed_117 : decode b_Mo_changed 117 = .ok (.invokevirtual 61, 3) := by decide +kernel
theorem d_Mo_changed_120 : decode b_Mo_changed 120 = .ok (.ireturn, 1) := by decide +kernel
theorem d_Mo_value_0 : decode b_Mo_value 0 = .ok (.aload_n 0, 1) := by decide +kernel
theorem d_Mo_value_1 : decode b_Mo_value 1 = .ok (.iconst 0, 1) := by decide +kernel
theorem d_Mo_value_2 : decode b_Mo_value 2 = .ok (.putfield 50, 3) := by decide +kernel
theorem d_Mo_value_5 : decode b_Mo_value 5 = .ok (.aload_n 0, 1) := by decide +kernel
theorem d_Mo_value_6 : decode b_Mo_value 6 = .ok (.iload_n 1, 1) := by decide +kernel
theorem d_Mo_value_7 : decode b_Mo_value 7 = .ok (.invokevirtual 69, 3) := by decide +kernel
theorem d_Mo_value_10 : decode b_Mo_value 10 = .ok (.ifCond .ne 5, 3) := by decide +kernel
theorem d_Mo_value_13 : decode b_Mo_value 13 = .ok (.iconst (-1), 1) := by decide +kernel
theorem d_Mo_value_14 : decode b_Mo_value 14 = .ok (.ireturn, 1) := by decide +kernel
theorem d_Mo_value_15 : decode b_Mo_value 15 = .ok (.iconst 0, 1) := by decide +kernel
theorem d_Mo_value_16 : decode b_Mo_value 16 = .ok (.istore 4, 2) := by decide +kernel
theorem d_Mo_value_18 : decode b_Mo_value 18 = .ok (.iload 4, 2) := by decide +kernel
theorem d_Mo_value_20 : decode b_Mo_value 20 = .ok (.iconst 5, 1) := by decide +kernel
theorem d_Mo_value_21 : decode b_Mo_value 21 = .ok (.if_icmp .ge 28, 3) := by decide +kernel
theorem d_Mo_value_24 : decode b_Mo_value 24 = .ok (.aload_n 0, 1) := by decide +kernel
theorem d_Mo_value_25 : decode b_Mo_value 25 = .ok (.getfield 22, 3) := by decide +kernel
theorem d_Mo_value_28 : decode b_Mo_value 28 = .ok (.iload 4, 2) := by decide +kernel
theorem d_Mo_value_30 : decode b_Mo_value 30 = .ok (.lload_n 2, 1) := by decide +kernel
theorem d_Mo_value_31 : decode b_Mo_value 31 = .ok (.bipush 12, 2) := by decide +kernel
theorem d_Mo_value_33 : decode b_Mo_value 33 = .ok (.iload 4, 2) := by decide +kernel
theorem d_Mo_value_35 : decode b_Mo_value 35 = .ok (.imul, 1) := by decide +kernel
theorem d_Mo_value_36 : decode b_Mo_value 36 = .ok (.lushr, 1) := by decide +kernel
theorem d_Mo_value_37 : decode b_Mo_value 37 = .ok (.ldc2_w 76, 3) := by decide +kernel
theorem d_Mo_value_40 : decode b_Mo_value 40 = .ok (.land, 1) := by decide +kernel
theorem d_Mo_value_41 : decode b_Mo_value 41 = .ok (.l2i, 1) := by decide +kernel
theorem d_Mo_value_42 : decode b_Mo_value 42 = .ok (.iastore, 1) := by decide +kernel
theorem d_Mo_value_43 : decode b_Mo_value 43 = .ok (.iinc 4 1, 3) := by decide +kernel
theorem d_Mo_value_46 : decode b_Mo_value 46 = .ok (.goto (-28), 3) := by decide +kernel
theorem d_Mo_value_49 : decode b_Mo_value 49 = .ok (.aload_n 0, 1) := by decide +kernel
theorem d_Mo_value_50 : decode b_Mo_value 50 = .ok (.invokevirtual 78, 3) := by decide +kernel
theorem d_Mo_value_53 : decode b_Mo_value 53 = .ok (.aload_n 0, 1) := by decide +kernel
theorem d_Mo_value_54 : decode b_Mo_value 54 = .ok (.getfield 25, 3) := by decide +kernel
theorem d_Mo_value_57 : decode b_Mo_value 57 = .ok (.iload_n 1, 1) := by decide +kernel
theorem d_Mo_value_58 : decode b_Mo_value 58 = .ok (.iaload, 1) := by decide +kernel
theorem d_Mo_value_59 : decode b_Mo_value 59 = .ok (.ireturn, 1) := by decide +kernel
theorem d_Mo_reckon_0 : decode b_Mo_reckon 0 = .ok (.iconst 0, 1) := by decide +kernel
theorem d_Mo_reckon_1 : decode b_Mo_reckon 1 = .ok (.istore_n 1, 1) := by decide +kernel
theorem d_Mo_reckon_2 : decode b_Mo_reckon 2 = .ok (.iload_n 1, 1) := by decide +kernel
theorem d_Mo_reckon_3 : decode b_Mo_reckon 3 = .ok (.aload_n 0, 1) := by decide +kernel
theorem d_Mo_reckon_4 : decode b_Mo_reckon 4 = .ok (.getfield 54, 3) := by decide +kernel
theorem d_Mo_reckon_7 : decode b_Mo_reckon 7 = .ok (.if_icmp .ge 156, 3) := by decide +kernel
theorem d_Mo_reckon_10 : decode b_Mo_reckon 10 = .ok (.aload_n 0, 1) := by decide +kernel
theorem d_Mo_reckon_11 : decode b_Mo_reckon 11 = .ok (.getfield 13, 3) := by decide +kernel
theorem d_Mo_reckon_14 : decode b_Mo_reckon 14 = .ok (.iload_n 1, 1) := by decide +kernel
theorem d_Mo_reckon_15 : decode b_Mo_reckon 15 = .ok (.iaload, 1) := by decide +kernel
theorem d_Mo_reckon_16 : decode b_Mo_reckon 16 = .ok (.istore_n 2, 1) := by decide +kernel
theorem d_Mo_reckon_17 : decode b_Mo_reckon 17 = .ok (.aload_n 0, 1) := by decide +kernel
theorem d_Mo_reckon_18 : decode b_Mo_reckon 18 = .ok (.getfield 16, 3) := by decide +kernel
theorem d_Mo_reckon_21 : decode b_Mo_reckon 21 = .ok (.iload_n 1, 1) := by decide +kernel
theorem d_Mo_reckon_22 : decode b_Mo_reckon 22 = .ok (.iaload, 1) := by decide +kernel
theorem d_Mo_reckon_23 : decode b_Mo_reckon 23 = .ok (.istore_n 3, 1) := by decide +kernel
theorem d_Mo_reckon_24 : decode b_Mo_reckon 24 = .ok (.aload_n 0, 1) := by decide +kernel
theorem d_Mo_reckon_25 : decode b_Mo_reckon 25 = .ok (.getfield 7, 3) := by decide +kernel
theorem d_Mo_reckon_28 : decode b_Mo_reckon 28 = .ok (.iload_n 1, 1) := by decide +kernel
theorem d_Mo_reckon_29 : decode b_Mo_reckon 29 = .ok (.iaload, 1) := by decide +kernel
theorem d_Mo_reckon_30 : decode b_Mo_reckon 30 = .ok (.tableswitch 68 0 2 #[26, 36, 51], 26) := by decide +kernel
theorem d_Mo_reckon_56 : decode b_Mo_reckon 56 = .ok (.aload_n 0, 1) := by decide +kernel
theorem d_Mo_reckon_57 : decode b_Mo_reckon 57 = .ok (.getfield 25, 3) := by decide +kernel
theorem d_Mo_reckon_60 : decode b_Mo_reckon 60 = .ok (.iload_n 1, 1) := by decide +kernel
theorem d_Mo_reckon_61 : decode b_Mo_reckon 61 = .ok (.iconst 0, 1) := by decide +kernel
theorem d_Mo_reckon_62 : decode b_Mo_reckon 62 = .ok (.iastore, 1) := by decide +kernel
theorem d_Mo_reckon_63 : decode b_Mo_reckon 63 = .ok (.goto 94, 3) := by decide +kernel
theorem d_Mo_reckon_66 : decode b_Mo_reckon 66 = .ok (.aload_n 0, 1) := by decide +kernel
theorem d_Mo_reckon_67 : decode b_Mo_reckon 67 = .ok (.getfield 25, 3) := by decide +kernel
theorem d_Mo_reckon_70 : decode b_Mo_reckon 70 = .ok (.iload_n 1, 1) := by decide +kernel
theorem d_Mo_reckon_71 : decode b_Mo_reckon 71 = .ok (.aload_n 0, 1) := by decide +kernel
theorem d_Mo_reckon_72 : decode b_Mo_reckon 72 = .ok (.getfield 22, 3) := by decide +kernel
theorem d_Mo_reckon_75 : decode b_Mo_reckon 75 = .ok (.iload_n 2, 1) := by decide +kernel
theorem d_Mo_reckon_76 : decode b_Mo_reckon 76 = .ok (.iaload, 1) := by decide +kernel
theorem d_Mo_reckon_77 : decode b_Mo_reckon 77 = .ok (.iastore, 1) := by decide +kernel
theorem d_Mo_reckon_78 : decode b_Mo_reckon 78 = .ok (.goto 79, 3) := by decide +kernel
theorem d_Mo_reckon_81 : decode b_Mo_reckon 81 = .ok (.aload_n 0, 1) := by decide +kernel
theorem d_Mo_reckon_82 : decode b_Mo_reckon 82 = .ok (.getfield 25, 3) := by decide +kernel
theorem d_Mo_reckon_85 : decode b_Mo_reckon 85 = .ok (.iload_n 1, 1) := by decide +kernel
theorem d_Mo_reckon_86 : decode b_Mo_reckon 86 = .ok (.aload_n 0, 1) := by decide +kernel
theorem d_Mo_reckon_87 : decode b_Mo_reckon 87 = .ok (.getfield 25, 3) := by decide +kernel
theorem d_Mo_reckon_90 : decode b_Mo_reckon 90 = .ok (.iload_n 2, 1) := by decide +kernel
theorem d_Mo_reckon_91 : decode b_Mo_reckon 91 = .ok (.iaload, 1) := by decide +kernel
theorem d_Mo_reckon_92 : decode b_Mo_reckon 92 = .ok (.iconst 1, 1) := by decide +kernel
theorem d_Mo_reckon_93 : decode b_Mo_reckon 93 = .ok (.iadd, 1) := by decide +kernel
theorem d_Mo_reckon_94 : decode b_Mo_reckon 94 = .ok (.iastore, 1) := by decide +kernel
theorem d_Mo_reckon_95 : decode b_Mo_reckon 95 = .ok (.goto 62, 3) := by decide +kernel
theorem d_Mo_reckon_98 : decode b_Mo_reckon 98 = .ok (.aload_n 0, 1) := by decide +kernel
theorem d_Mo_reckon_99 : decode b_Mo_reckon 99 = .ok (.getfield 25, 3) := by decide +kernel
theorem d_Mo_reckon_102 : decode b_Mo_reckon 102 = .ok (.iload_n 1, 1) := by decide +kernel
theorem d_Mo_reckon_103 : decode b_Mo_reckon 103 = .ok (.aload_n 0, 1) := by decide +kernel
theorem d_Mo_reckon_104 : decode b_Mo_reckon 104 = .ok (.getfield 7, 3) := by decide +kernel
theorem d_Mo_reckon_107 : decode b_Mo_reckon 107 = .ok (.iload_n 1, 1) := by decide +kernel
theorem d_Mo_reckon_108 : decode b_Mo_reckon 108 = .ok (.iaload, 1) := by decide +kernel
theorem d_Mo_reckon_109 : decode b_Mo_reckon 109 = .ok (.iconst 4, 1) := by decide +kernel
theorem d_Mo_reckon_110 : decode b_Mo_reckon 110 = .ok (.if_icmp .ne 16, 3) := by decide +kernel
theorem d_Mo_reckon_113 : decode b_Mo_reckon 113 = .ok (.aload_n 0, 1) := by decide +kernel
theorem d_Mo_reckon_114 : decode b_Mo_reckon 114 = .ok (.getfield 25, 3) := by decide +kernel
theorem d_Mo_reckon_117 : decode b_Mo_reckon 117 = .ok (.iload_n 3, 1) := by decide +kernel
theorem d_Mo_reckon_118 : decode b_Mo_reckon 118 = .ok (.iaload, 1) := by decide +kernel
theorem d_Mo_reckon_119 : decode b_Mo_reckon 119 = .ok (.ifCond .ne 7, 3) := by decide +kernel
theorem d_Mo_reckon_122 : decode b_Mo_reckon 122 = .ok (.iconst 0, 1) := by decide +kernel
theorem d_Mo_reckon_123 : decode b_Mo_reckon 123 = .ok (.goto 33, 3) := by decide +kernel
theorem d_Mo_reckon_126 : decode b_Mo_reckon 126 = .ok (.aload_n 0, 1) := by decide +kernel
theorem d_Mo_reckon_127 : decode b_Mo_reckon 127 = .ok (.getfield 25, 3) := by decide +kernel
theorem d_Mo_reckon_130 : decode b_Mo_reckon 130 = .ok (.iload_n 2, 1) := by decide +kernel
theorem d_Mo_reckon_131 : decode b_Mo_reckon 131 = .ok (.iaload, 1) := by decide +kernel
theorem d_Mo_reckon_132 : decode b_Mo_reckon 132 = .ok (.aload_n 0, 1) := by decide +kernel
theorem d_Mo_reckon_133 : decode b_Mo_reckon 133 = .ok (.getfield 25, 3) := by decide +kernel
theorem d_Mo_reckon_136 : decode b_Mo_reckon 136 = .ok (.iload_n 3, 1) := by decide +kernel
theorem d_Mo_reckon_137 : decode b_Mo_reckon 137 = .ok (.iaload, 1) := by decide +kernel
theorem d_Mo_reckon_138 : decode b_Mo_reckon 138 = .ok (.if_icmp .le 12, 3) := by decide +kernel
theorem d_Mo_reckon_141 : decode b_Mo_reckon 141 = .ok (.aload_n 0, 1) := by decide +kernel
theorem d_Mo_reckon_142 : decode b_Mo_reckon 142 = .ok (.getfield 25, 3) := by decide +kernel
theorem d_Mo_reckon_145 : decode b_Mo_reckon 145 = .ok (.iload_n 2, 1) := by decide +kernel
theorem d_Mo_reckon_146 : decode b_Mo_reckon 146 = .ok (.iaload, 1) := by decide +kernel
theorem d_Mo_reckon_147 : decode b_Mo_reckon 147 = .ok (.goto 9, 3) := by decide +kernel
theorem d_Mo_reckon_150 : decode b_Mo_reckon 150 = .ok (.aload_n 0, 1) := by decide +kernel
theorem d_Mo_reckon_151 : decode b_Mo_reckon 151 = .ok (.getfield 25, 3) := by decide +kernel
theorem d_Mo_reckon_154 : decode b_Mo_reckon 154 = .ok (.iload_n 3, 1) := by decide +kernel
theorem d_Mo_reckon_155 : decode b_Mo_reckon 155 = .ok (.iaload, 1) := by decide +kernel
theorem d_Mo_reckon_156 : decode b_Mo_reckon 156 = .ok (.iastore, 1) := by decide +kernel
theorem d_Mo_reckon_157 : decode b_Mo_reckon 157 = .ok (.iinc 1 1, 3) := by decide +kernel
theorem d_Mo_reckon_160 : decode b_Mo_reckon 160 = .ok (.goto (-158), 3) := by decide +kernel
theorem d_Mo_reckon_163 : decode b_Mo_reckon 163 = .ok (.return_, 1) := by decide +kernel
theorem d_Mo_part_0 : decode b_Mo_part 0 = .ok (.aload_n 0, 1) := by decide +kernel
theorem d_Mo_part_1 : decode b_Mo_part 1 = .ok (.aload_n 0, 1) := by decide +kernel
theorem d_Mo_part_2 : decode b_Mo_part 2 = .ok (.iload_n 1, 1) := by decide +kernel
theorem d_Mo_part_3 : decode b_Mo_part 3 = .ok (.invokevirtual 69, 3) := by decide +kernel
theorem d_Mo_part_6 : decode b_Mo_part 6 = .ok (.ifCond .eq 23, 3) := by decide +kernel
theorem d_Mo_part_9 : decode b_Mo_part 9 = .ok (.iload_n 2, 1) := by decide +kernel
theorem d_Mo_part_10 : decode b_Mo_part 10 = .ok (.ifCond .lt 19, 3) := by decide +kernel
theorem d_Mo_part_13 : decode b_Mo_part 13 = .ok (.iload_n 2, 1) := by decide +kernel
theorem d_Mo_part_14 : decode b_Mo_part 14 = .ok (.bipush 31, 2) := by decide +kernel
theorem d_Mo_part_16 : decode b_Mo_part 16 = .ok (.if_icmp .gt 13, 3) := by decide +kernel
theorem d_Mo_part_19 : decode b_Mo_part 19 = .ok (.iload_n 3, 1) := by decide +kernel
theorem d_Mo_part_20 : decode b_Mo_part 20 = .ok (.iconst (-1), 1) := by decide +kernel
theorem d_Mo_part_21 : decode b_Mo_part 21 = .ok (.if_icmp .lt 8, 3) := by decide +kernel
theorem d_Mo_part_24 : decode b_Mo_part 24 = .ok (.iload_n 3, 1) := by decide +kernel
theorem d_Mo_part_25 : decode b_Mo_part 25 = .ok (.iconst 5, 1) := by decide +kernel
theorem d_Mo_part_26 : decode b_Mo_part 26 = .ok (.if_icmp .lt 7, 3) := by decide +kernel
theorem d_Mo_part_29 : decode b_Mo_part 29 = .ok (.iconst 1, 1) := by decide +kernel
theorem d_Mo_part_30 : decode b_Mo_part 30 = .ok (.goto 4, 3) := by decide +kernel
theorem d_Mo_part_33 : decode b_Mo_part 33 = .ok (.iconst 0, 1) := by decide +kernel
theorem d_Mo_part_34 : decode b_Mo_part 34 = .ok (.invokevirtual 65, 3) := by decide +kernel
theorem d_Mo_part_37 : decode b_Mo_part 37 = .ok (.ifCond .eq 5, 3) := by decide +kernel
theorem d_Mo_part_40 : decode b_Mo_part 40 = .ok (.iconst 0, 1) := by decide +kernel
theorem d_Mo_part_41 : decode b_Mo_part 41 = .ok (.ireturn, 1) := by decide +kernel
theorem d_Mo_part_42 : decode b_Mo_part 42 = .ok (.iload_n 3, 1) := by decide +kernel
theorem d_Mo_part_43 : decode b_Mo_part 43 = .ok (.ifCond .lt 11, 3) := by decide +kernel
theorem d_Mo_part_46 : decode b_Mo_part 46 = .ok (.aload_n 0, 1) := by decide +kernel
theorem d_Mo_part_47 : decode b_Mo_part 47 = .ok (.iload_n 1, 1) := by decide +kernel
theorem d_Mo_part_48 : decode b_Mo_part 48 = .ok (.iload_n 2, 1) := by decide +kernel
theorem d_Mo_part_49 : decode b_Mo_part 49 = .ok (.iload_n 3, 1) := by decide +kernel
theorem d_Mo_part_50 : decode b_Mo_part 50 = .ok (.invokevirtual 85, 3) := by decide +kernel
theorem d_Mo_part_53 : decode b_Mo_part 53 = .ok (.ireturn, 1) := by decide +kernel
theorem d_Mo_part_54 : decode b_Mo_part 54 = .ok (.iconst (-1), 1) := by decide +kernel
theorem d_Mo_part_55 : decode b_Mo_part 55 = .ok (.istore 4, 2) := by decide +kernel
theorem d_Mo_part_57 : decode b_Mo_part 57 = .ok (.iconst 0, 1) := by decide +kernel
theorem d_Mo_part_58 : decode b_Mo_part 58 = .ok (.istore 5, 2) := by decide +kernel
theorem d_Mo_part_60 : decode b_Mo_part 60 = .ok (.iload 5, 2) := by decide +kernel
theorem d_Mo_part_62 : decode b_Mo_part 62 = .ok (.iconst 5, 1) := by decide +kernel
theorem d_Mo_part_63 : decode b_Mo_part 63 = .ok (.if_icmp .ge 44, 3) := by decide +kernel
theorem d_Mo_part_66 : decode b_Mo_part 66 = .ok (.aload_n 0, 1) := by decide +kernel
theorem d_Mo_part_67 : decode b_Mo_part 67 = .ok (.iload_n 1, 1) := by decide +kernel
theorem d_Mo_part_68 : decode b_Mo_part 68 = .ok (.iload_n 2, 1) := by decide +kernel
theorem d_Mo_part_69 : decode b_Mo_part 69 = .ok (.iload 5, 2) := by decide +kernel
theorem d_Mo_part_71 : decode b_Mo_part 71 = .ok (.invokevirtual 85, 3) := by decide +kernel
theorem d_Mo_part_74 : decode b_Mo_part 74 = .ok (.istore 6, 2) := by decide +kernel
theorem d_Mo_part_76 : decode b_Mo_part 76 = .ok (.iload 6, 2) := by decide +kernel
theorem d_Mo_part_78 : decode b_Mo_part 78 = .ok (.ifCond .lt 19, 3) := by decide +kernel
theorem d_Mo_part_81 : decode b_Mo_part 81 = .ok (.iload 6, 2) := by decide +kernel
theorem d_Mo_part_83 : decode b_Mo_part 83 = .ok (.iconst 1, 1) := by decide +kernel
theorem d_Mo_part_84 : decode b_Mo_part 84 = .ok (.iadd, 1) := by decide +kernel
theorem d_Mo_part_85 : decode b_Mo_part 85 = .ok (.iload 4, 2) := by decide +kernel
theorem d_Mo_part_87 : decode b_Mo_part 87 = .ok (.if_icmp .le 10, 3) := by decide +kernel
theorem d_Mo_part_90 : decode b_Mo_part 90 = .ok (.iload 6, 2) := by decide +kernel
theorem d_Mo_part_92 : decode b_Mo_part 92 = .ok (.iconst 1, 1) := by decide +kernel
theorem d_Mo_part_93 : decode b_Mo_part 93 = .ok (.iadd, 1) := by decide +kernel
theorem d_Mo_part_94 : decode b_Mo_part 94 = .ok (.goto 5, 3) := by decide +kernel
theorem d_Mo_part_97 : decode b_Mo_part 97 = .ok (.iload 4, 2) := by decide +kernel
theorem d_Mo_part_99 : decode b_Mo_part 99 = .ok (.istore 4, 2) := by decide +kernel
theorem d_Mo_part_101 : decode b_Mo_part 101 = .ok (.iinc 5 1, 3) := by decide +kernel
theorem d_Mo_part_104 : decode b_Mo_part 104 = .ok (.goto (-44), 3) := by decide +kernel
theorem d_Mo_part_107 : decode b_Mo_part 107 = .ok (.aload_n 0, 1) := by decide +kernel
theorem d_Mo_part_108 : decode b_Mo_part 108 = .ok (.iload_n 2, 1) := by decide +kernel
theorem d_Mo_part_109 : decode b_Mo_part 109 = .ok (.iconst 0, 1) := by decide +kernel
theorem d_Mo_part_110 : decode b_Mo_part 110 = .ok (.iconst (-1), 1) := by decide +kernel
theorem d_Mo_part_111 : decode b_Mo_part 111 = .ok (.invokevirtual 81, 3) := by decide +kernel
theorem d_Mo_part_114 : decode b_Mo_part 114 = .ok (.aload_n 0, 1) := by decide +kernel
theorem d_Mo_part_115 : decode b_Mo_part 115 = .ok (.getfield 25, 3) := by decide +kernel
theorem d_Mo_part_118 : decode b_Mo_part 118 = .ok (.iload_n 1, 1) := by decide +kernel
theorem d_Mo_part_119 : decode b_Mo_part 119 = .ok (.iaload, 1) := by decide +kernel
theorem d_Mo_part_120 : decode b_Mo_part 120 = .ok (.iload 4, 2) := by decide +kernel
theorem d_Mo_part_122 : decode b_Mo_part 122 = .ok (.if_icmp .le 12, 3) := by decide +kernel
theorem d_Mo_part_125 : decode b_Mo_part 125 = .ok (.aload_n 0, 1) := by decide +kernel
theorem d_Mo_part_126 : decode b_Mo_part 126 = .ok (.getfield 25, 3) := by decide +kernel
theorem d_Mo_part_129 : decode b_Mo_part 129 = .ok (.iload_n 1, 1) := by decide +kernel
theorem d_Mo_part_130 : decode b_Mo_part 130 = .ok (.iaload, 1) := by decide +kernel
theorem d_Mo_part_131 : decode b_Mo_part 131 = .ok (.goto 4, 3) := by decide +kernel
theorem d_Mo_part_134 : decode b_Mo_part 134 = .ok (.iconst (-1), 1) := by decide +kernel
theorem d_Mo_part_135 : decode b_Mo_part 135 = .ok (.ireturn, 1) := by decide +kernel
theorem d_Mo_growth_0 : decode b_Mo_growth 0 = .ok (.iload_n 2, 1) := by decide +kernel
theorem d_Mo_growth_1 : decode b_Mo_growth 1 = .ok (.iload_n 3, 1) := by decide +kernel
theorem d_Mo_growth_2 : decode b_Mo_growth 2 = .ok (.ishr, 1) := by decide +kernel
theorem d_Mo_growth_3 : decode b_Mo_growth 3 = .ok (.iconst 1, 1) := by decide +kernel
theorem d_Mo_growth_4 : decode b_Mo_growth 4 = .ok (.iand, 1) := by decide +kernel
theorem d_Mo_growth_5 : decode b_Mo_growth 5 = .ok (.ifCond .ne 5, 3) := by decide +kernel
theorem d_Mo_growth_8 : decode b_Mo_growth 8 = .ok (.iconst (-1), 1) := by decide +kernel
theorem d_Mo_growth_9 : decode b_Mo_growth 9 = .ok (.ireturn, 1) := by decide +kernel
theorem d_Mo_growth_10 : decode b_Mo_growth 10 = .ok (.aload_n 0, 1) := by decide +kernel
theorem d_Mo_growth_11 : decode b_Mo_growth 11 = .ok (.iload_n 2, 1) := by decide +kernel
theorem d_Mo_growth_12 : decode b_Mo_growth 12 = .ok (.iconst 0, 1) := by decide +kernel
theorem d_Mo_growth_13 : decode b_Mo_growth 13 = .ok (.iload_n 3, 1) := by decide +kernel
theorem d_Mo_growth_14 : decode b_Mo_growth 14 = .ok (.invokevirtual 81, 3) := by decide +kernel
theorem d_Mo_growth_17 : decode b_Mo_growth 17 = .ok (.aload_n 0, 1) := by decide +kernel
theorem d_Mo_growth_18 : decode b_Mo_growth 18 = .ok (.getfield 25, 3) := by decide +kernel
theorem d_Mo_growth_21 : decode b_Mo_growth 21 = .ok (.iload_n 1, 1) := by decide +kernel
theorem d_Mo_growth_22 : decode b_Mo_growth 22 = .ok (.iaload, 1) := by decide +kernel
theorem d_Mo_growth_23 : decode b_Mo_growth 23 = .ok (.sipush 200, 3) := by decide +kernel
theorem d_Mo_growth_26 : decode b_Mo_growth 26 = .ok (.if_icmp .lt 16, 3) := by decide +kernel
theorem d_Mo_growth_29 : decode b_Mo_growth 29 = .ok (.aload_n 0, 1) := by decide +kernel
theorem d_Mo_growth_30 : decode b_Mo_growth 30 = .ok (.getfield 25, 3) := by decide +kernel
theorem d_Mo_growth_33 : decode b_Mo_growth 33 = .ok (.iload_n 1, 1) := by decide +kernel
theorem d_Mo_growth_34 : decode b_Mo_growth 34 = .ok (.iaload, 1) := by decide +kernel
theorem d_Mo_growth_35 : decode b_Mo_growth 35 = .ok (.sipush 200, 3) := by decide +kernel
theorem d_Mo_growth_38 : decode b_Mo_growth 38 = .ok (.isub, 1) := by decide +kernel
theorem d_Mo_growth_39 : decode b_Mo_growth 39 = .ok (.goto 4, 3) := by decide +kernel
theorem d_Mo_growth_42 : decode b_Mo_growth 42 = .ok (.iconst (-1), 1) := by decide +kernel
theorem d_Mo_growth_43 : decode b_Mo_growth 43 = .ok (.ireturn, 1) := by decide +kernel
theorem d_Mo_rest_0 : decode b_Mo_rest 0 = .ok (.iload_n 2, 1) := by decide +kernel
theorem d_Mo_rest_1 : decode b_Mo_rest 1 = .ok (.istore 4, 2) := by decide +kernel
theorem d_Mo_rest_3 : decode b_Mo_rest 3 = .ok (.iload 4, 2) := by decide +kernel
theorem d_Mo_rest_5 : decode b_Mo_rest 5 = .ok (.iconst 5, 1) := by decide +kernel
theorem d_Mo_rest_6 : decode b_Mo_rest 6 = .ok (.if_icmp .ge 42, 3) := by decide +kernel
theorem d_Mo_rest_9 : decode b_Mo_rest 9 = .ok (.aload_n 0, 1) := by decide +kernel
theorem d_Mo_rest_10 : decode b_Mo_rest 10 = .ok (.getfield 22, 3) := by decide +kernel
theorem d_Mo_rest_13 : decode b_Mo_rest 13 = .ok (.iload 4, 2) := by decide +kernel
theorem d_Mo_rest_15 : decode b_Mo_rest 15 = .ok (.iload_n 1, 1) := by decide +kernel
theorem d_Mo_rest_16 : decode b_Mo_rest 16 = .ok (.iload 4, 2) := by decide +kernel
theorem d_Mo_rest_18 : decode b_Mo_rest 18 = .ok (.ishr, 1) := by decide +kernel
theorem d_Mo_rest_19 : decode b_Mo_rest 19 = .ok (.iconst 1, 1) := by decide +kernel
theorem d_Mo_rest_20 : decode b_Mo_rest 20 = .ok (.iand, 1) := by decide +kernel
theorem d_Mo_rest_21 : decode b_Mo_rest 21 = .ok (.ifCond .ne 7, 3) := by decide +kernel
theorem d_Mo_rest_24 : decode b_Mo_rest 24 = .ok (.iconst 0, 1) := by decide +kernel
theorem d_Mo_rest_25 : decode b_Mo_rest 25 = .ok (.goto 16, 3) := by decide +kernel
theorem d_Mo_rest_28 : decode b_Mo_rest 28 = .ok (.iload 4, 2) := by decide +kernel
theorem d_Mo_rest_30 : decode b_Mo_rest 30 = .ok (.iload_n 3, 1) := by decide +kernel
theorem d_Mo_rest_31 : decode b_Mo_rest 31 = .ok (.if_icmp .ne 9, 3) := by decide +kernel
theorem d_Mo_rest_34 : decode b_Mo_rest 34 = .ok (.sipush 200, 3) := by decide +kernel
theorem d_Mo_rest_37 : decode b_Mo_rest 37 = .ok (.goto 4, 3) := by decide +kernel
theorem d_Mo_rest_40 : decode b_Mo_rest 40 = .ok (.iconst 1, 1) := by decide +kernel
theorem d_Mo_rest_41 : decode b_Mo_rest 41 = .ok (.iastore, 1) := by decide +kernel
theorem d_Mo_rest_42 : decode b_Mo_rest 42 = .ok (.iinc 4 1, 3) := by decide +kernel
theorem d_Mo_rest_45 : decode b_Mo_rest 45 = .ok (.goto (-42), 3) := by decide +kernel
theorem d_Mo_rest_48 : decode b_Mo_rest 48 = .ok (.aload_n 0, 1) := by decide +kernel
theorem d_Mo_rest_49 : decode b_Mo_rest 49 = .ok (.invokevirtual 78, 3) := by decide +kernel
theorem d_Mo_rest_52 : decode b_Mo_rest 52 = .ok (.return_, 1) := by decide +kernel
theorem d_Mo_isAtMost_0 : decode b_Mo_isAtMost 0 = .ok (.aload_n 0, 1) := by decide +kernel
theorem d_Mo_isAtMost_1 : decode b_Mo_isAtMost 1 = .ok (.aload_n 0, 1) := by decide +kernel
theorem d_Mo_isAtMost_2 : decode b_Mo_isAtMost 2 = .ok (.iload_n 1, 1) := by decide +kernel
theorem d_Mo_isAtMost_3 : decode b_Mo_isAtMost 3 = .ok (.invokevirtual 69, 3) := by decide +kernel
theorem d_Mo_isAtMost_6 : decode b_Mo_isAtMost 6 = .ok (.ifCond .eq 11, 3) := by decide +kernel
theorem d_Mo_isAtMost_9 : decode b_Mo_isAtMost 9 = .ok (.aload_n 0, 1) := by decide +kernel
theorem d_Mo_isAtMost_10 : decode b_Mo_isAtMost 10 = .ok (.iload_n 2, 1) := by decide +kernel
theorem d_Mo_isAtMost_11 : decode b_Mo_isAtMost 11 = .ok (.invokevirtual 69, 3) := by decide +kernel
theorem d_Mo_isAtMost_14 : decode b_Mo_isAtMost 14 = .ok (.ifCond .ne 7, 3) := by decide +kernel
theorem d_Mo_isAtMost_17 : decode b_Mo_isAtMost 17 = .ok (.iconst 1, 1) := by decide +kernel
theorem d_Mo_isAtMost_18 : decode b_Mo_isAtMost 18 = .ok (.goto 4, 3) := by decide +kernel
theorem d_Mo_isAtMost_21 : decode b_Mo_isAtMost 21 = .ok (.iconst 0, 1) := by decide +kernel
theorem d_Mo_isAtMost_22 : decode b_Mo_isAtMost 22 = .ok (.invokevirtual 65, 3) := by decide +kernel
theorem d_Mo_isAtMost_25 : decode b_Mo_isAtMost 25 = .ok (.ifCond .ne 17, 3) := by decide +kernel
theorem d_Mo_isAtMost_28 : decode b_Mo_isAtMost 28 = .ok (.aload_n 0, 1) := by decide +kernel
theorem d_Mo_isAtMost_29 : decode b_Mo_isAtMost 29 = .ok (.iload_n 1, 1) := by decide +kernel
theorem d_Mo_isAtMost_30 : decode b_Mo_isAtMost 30 = .ok (.iload_n 2, 1) := by decide +kernel
theorem d_Mo_isAtMost_31 : decode b_Mo_isAtMost 31 = .ok (.invokevirtual 92, 3) := by decide +kernel
theorem d_Mo_isAtMost_34 : decode b_Mo_isAtMost 34 = .ok (.iconst (-1), 1) := by decide +kernel
theorem d_Mo_isAtMost_35 : decode b_Mo_isAtMost 35 = .ok (.if_icmp .ne 7, 3) := by decide +kernel
theorem d_Mo_isAtMost_38 : decode b_Mo_isAtMost 38 = .ok (.iconst 1, 1) := by decide +kernel
theorem d_Mo_isAtMost_39 : decode b_Mo_isAtMost 39 = .ok (.goto 4, 3) := by decide +kernel
theorem d_Mo_isAtMost_42 : decode b_Mo_isAtMost 42 = .ok (.iconst 0, 1) := by decide +kernel
theorem d_Mo_isAtMost_43 : decode b_Mo_isAtMost 43 = .ok (.ireturn, 1) := by decide +kernel
theorem d_Mo_regionOf_0 : decode b_Mo_regionOf 0 = .ok (.iconst 0, 1) := by decide +kernel
theorem d_Mo_regionOf_1 : decode b_Mo_regionOf 1 = .ok (.istore_n 3, 1) := by decide +kernel
theorem d_Mo_regionOf_2 : decode b_Mo_regionOf 2 = .ok (.iload_n 3, 1) := by decide +kernel
theorem d_Mo_regionOf_3 : decode b_Mo_regionOf 3 = .ok (.bipush 32, 2) := by decide +kernel
theorem d_Mo_regionOf_5 : decode b_Mo_regionOf 5 = .ok (.if_icmp .ge 22, 3) := by decide +kernel
theorem d_Mo_regionOf_8 : decode b_Mo_regionOf 8 = .ok (.aload_n 0, 1) := by decide +kernel
theorem d_Mo_regionOf_9 : decode b_Mo_regionOf 9 = .ok (.iload_n 1, 1) := by decide +kernel
theorem d_Mo_regionOf_10 : decode b_Mo_regionOf 10 = .ok (.iload_n 2, 1) := by decide +kernel
theorem d_Mo_regionOf_11 : decode b_Mo_regionOf 11 = .ok (.iload_n 3, 1) := by decide +kernel
theorem d_Mo_regionOf_12 : decode b_Mo_regionOf 12 = .ok (.iconst 0, 1) := by decide +kernel
theorem d_Mo_regionOf_13 : decode b_Mo_regionOf 13 = .ok (.invokevirtual 88, 3) := by decide +kernel
theorem d_Mo_regionOf_16 : decode b_Mo_regionOf 16 = .ok (.ifCond .eq 5, 3) := by decide +kernel
theorem d_Mo_regionOf_19 : decode b_Mo_regionOf 19 = .ok (.iload_n 3, 1) := by decide +kernel
theorem d_Mo_regionOf_20 : decode b_Mo_regionOf 20 = .ok (.ireturn, 1) := by decide +kernel
theorem d_Mo_regionOf_21 : decode b_Mo_regionOf 21 = .ok (.iinc 3 1, 3) := by decide +kernel
theorem d_Mo_regionOf_24 : decode b_Mo_regionOf 24 = .ok (.goto (-22), 3) := by decide +kernel
theorem d_Mo_regionOf_27 : decode b_Mo_regionOf 27 = .ok (.iconst (-1), 1) := by decide +kernel
theorem d_Mo_regionOf_28 : decode b_Mo_regionOf 28 = .ok (.ireturn, 1) := by decide +kernel
theorem d_Mo_goesOn_0 : decode b_Mo_goesOn 0 = .ok (.iconst 0, 1) := by decide +kernel
theorem d_Mo_goesOn_1 : decode b_Mo_goesOn 1 = .ok (.istore 5, 2) := by decide +kernel
theorem d_Mo_goesOn_3 : decode b_Mo_goesOn 3 = .ok (.iload 4, 2) := by decide +kernel
theorem d_Mo_goesOn_5 : decode b_Mo_goesOn 5 = .ok (.iconst 1, 1) := by decide +kernel
theorem d_Mo_goesOn_6 : decode b_Mo_goesOn 6 = .ok (.isub, 1) := by decide +kernel
theorem d_Mo_goesOn_7 : decode b_Mo_goesOn 7 = .ok (.istore 6, 2) := by decide +kernel
theorem d_Mo_goesOn_9 : decode b_Mo_goesOn 9 = .ok (.iload 6, 2) := by decide +kernel
theorem d_Mo_goesOn_11 : decode b_Mo_goesOn 11 = .ok (.iconst 5, 1) := by decide +kernel
theorem d_Mo_goesOn_12 : decode b_Mo_goesOn 12 = .ok (.if_icmp .ge 75, 3) := by decide +kernel
theorem d_Mo_goesOn_15 : decode b_Mo_goesOn 15 = .ok (.iload 5, 2) := by decide +kernel
theorem d_Mo_goesOn_17 : decode b_Mo_goesOn 17 = .ok (.ifCond .ne 70, 3) := by decide +kernel
theorem d_Mo_goesOn_20 : decode b_Mo_goesOn 20 = .ok (.iload 6, 2) := by decide +kernel
theorem d_Mo_goesOn_22 : decode b_Mo_goesOn 22 = .ok (.iload 4, 2) := by decide +kernel
theorem d_Mo_goesOn_24 : decode b_Mo_goesOn 24 = .ok (.if_icmp .lt 15, 3) := by decide +kernel
theorem d_Mo_goesOn_27 : decode b_Mo_goesOn 27 = .ok (.iload_n 3, 1) := by decide +kernel
theorem d_Mo_goesOn_28 : decode b_Mo_goesOn 28 = .ok (.iload 6, 2) := by decide +kernel
theorem d_Mo_goesOn_30 : decode b_Mo_goesOn 30 = .ok (.ishr, 1) := by decide +kernel
theorem d_Mo_goesOn_31 : decode b_Mo_goesOn 31 = .ok (.iconst 1, 1) := by decide +kernel
theorem d_Mo_goesOn_32 : decode b_Mo_goesOn 32 = .ok (.iand, 1) := by decide +kernel
theorem d_Mo_goesOn_33 : decode b_Mo_goesOn 33 = .ok (.ifCond .ne 6, 3) := by decide +kernel
theorem d_Mo_goesOn_36 : decode b_Mo_goesOn 36 = .ok (.goto 45, 3) := by decide +kernel
theorem d_Mo_goesOn_39 : decode b_Mo_goesOn 39 = .ok (.aload_n 0, 1) := by decide +kernel
theorem d_Mo_goesOn_40 : decode b_Mo_goesOn 40 = .ok (.iload_n 3, 1) := by decide +kernel
theorem d_Mo_goesOn_41 : decode b_Mo_goesOn 41 = .ok (.iload 4, 2) := by decide +kernel
theorem d_Mo_goesOn_43 : decode b_Mo_goesOn 43 = .ok (.iload 6, 2) := by decide +kernel
theorem d_Mo_goesOn_45 : decode b_Mo_goesOn 45 = .ok (.iload 4, 2) := by decide +kernel
theorem d_Mo_goesOn_47 : decode b_Mo_goesOn 47 = .ok (.if_icmp .ge 7, 3) := by decide +kernel
theorem d_Mo_goesOn_50 : decode b_Mo_goesOn 50 = .ok (.iconst (-1), 1) := by decide +kernel
theorem d_Mo_goesOn_51 : decode b_Mo_goesOn 51 = .ok (.goto 5, 3) := by decide +kernel
theorem d_Mo_goesOn_54 : decode b_Mo_goesOn 54 = .ok (.iload 6, 2) := by decide +kernel
theorem d_Mo_goesOn_56 : decode b_Mo_goesOn 56 = .ok (.invokevirtual 81, 3) := by decide +kernel
theorem d_Mo_goesOn_59 : decode b_Mo_goesOn 59 = .ok (.aload_n 0, 1) := by decide +kernel
theorem d_Mo_goesOn_60 : decode b_Mo_goesOn 60 = .ok (.getfield 25, 3) := by decide +kernel
theorem d_Mo_goesOn_63 : decode b_Mo_goesOn 63 = .ok (.iload_n 1, 1) := by decide +kernel
theorem d_Mo_goesOn_64 : decode b_Mo_goesOn 64 = .ok (.iaload, 1) := by decide +kernel
theorem d_Mo_goesOn_65 : decode b_Mo_goesOn 65 = .ok (.aload_n 0, 1) := by decide +kernel
theorem d_Mo_goesOn_66 : decode b_Mo_goesOn 66 = .ok (.getfield 25, 3) := by decide +kernel
theorem d_Mo_goesOn_69 : decode b_Mo_goesOn 69 = .ok (.iload_n 2, 1) := by decide +kernel
theorem d_Mo_goesOn_70 : decode b_Mo_goesOn 70 = .ok (.iaload, 1) := by decide +kernel
theorem d_Mo_goesOn_71 : decode b_Mo_goesOn 71 = .ok (.if_icmp .le 7, 3) := by decide +kernel
theorem d_Mo_goesOn_74 : decode b_Mo_goesOn 74 = .ok (.iconst 1, 1) := by decide +kernel
theorem d_Mo_goesOn_75 : decode b_Mo_goesOn 75 = .ok (.goto 4, 3) := by decide +kernel
theorem d_Mo_goesOn_78 : decode b_Mo_goesOn 78 = .ok (.iconst 0, 1) := by decide +kernel
theorem d_Mo_goesOn_79 : decode b_Mo_goesOn 79 = .ok (.istore 5, 2) := by decide +kernel
theorem d_Mo_goesOn_81 : decode b_Mo_goesOn 81 = .ok (.iinc 6 1, 3) := by decide +kernel
theorem d_Mo_goesOn_84 : decode b_Mo_goesOn 84 = .ok (.goto (-75), 3) := by decide +kernel
theorem d_Mo_goesOn_87 : decode b_Mo_goesOn 87 = .ok (.iload 5, 2) := by decide +kernel
theorem d_Mo_goesOn_89 : decode b_Mo_goesOn 89 = .ok (.ireturn, 1) := by decide +kernel
theorem d_Mo_isSame_0 : decode b_Mo_isSame 0 = .ok (.aload_n 0, 1) := by decide +kernel
theorem d_Mo_isSame_1 : decode b_Mo_isSame 1 = .ok (.aload_n 0, 1) := by decide +kernel
theorem d_Mo_isSame_2 : decode b_Mo_isSame 2 = .ok (.iload_n 1, 1) := by decide +kernel
theorem d_Mo_isSame_3 : decode b_Mo_isSame 3 = .ok (.invokevirtual 69, 3) := by decide +kernel
theorem d_Mo_isSame_6 : decode b_Mo_isSame 6 = .ok (.ifCond .eq 11, 3) := by decide +kernel
theorem d_Mo_isSame_9 : decode b_Mo_isSame 9 = .ok (.aload_n 0, 1) := by decide +kernel
theorem d_Mo_isSame_10 : decode b_Mo_isSame 10 = .ok (.iload_n 2, 1) := by decide +kernel
theorem d_Mo_isSame_11 : decode b_Mo_isSame 11 = .ok (.invokevirtual 69, 3) := by decide +kernel
theorem d_Mo_isSame_14 : decode b_Mo_isSame 14 = .ok (.ifCond .ne 7, 3) := by decide +kernel
theorem d_Mo_isSame_17 : decode b_Mo_isSame 17 = .ok (.iconst 1, 1) := by decide +kernel
theorem d_Mo_isSame_18 : decode b_Mo_isSame 18 = .ok (.goto 4, 3) := by decide +kernel
theorem d_Mo_isSame_21 : decode b_Mo_isSame 21 = .ok (.iconst 0, 1) := by decide +kernel
theorem d_Mo_isSame_22 : decode b_Mo_isSame 22 = .ok (.invokevirtual 65, 3) := by decide +kernel
theorem d_Mo_isSame_25 : decode b_Mo_isSame 25 = .ok (.ifCond .ne 16, 3) := by decide +kernel
theorem d_Mo_isSame_28 : decode b_Mo_isSame 28 = .ok (.aload_n 0, 1) := by decide +kernel
theorem d_Mo_isSame_29 : decode b_Mo_isSame 29 = .ok (.iload_n 1, 1) := by decide +kernel
theorem d_Mo_isSame_30 : decode b_Mo_isSame 30 = .ok (.iload_n 2, 1) := by decide +kernel
theorem d_Mo_isSame_31 : decode b_Mo_isSame 31 = .ok (.invokevirtual 96, 3) := by decide +kernel
theorem d_Mo_isSame_34 : decode b_Mo_isSame 34 = .ok (.ifCond .eq 7, 3) := by decide +kernel
theorem d_Mo_isSame_37 : decode b_Mo_isSame 37 = .ok (.iconst 1, 1) := by decide +kernel
theorem d_Mo_isSame_38 : decode b_Mo_isSame 38 = .ok (.goto 4, 3) := by decide +kernel
theorem d_Mo_isSame_41 : decode b_Mo_isSame 41 = .ok (.iconst 0, 1) := by decide +kernel
theorem d_Mo_isSame_42 : decode b_Mo_isSame 42 = .ok (.ireturn, 1) := by decide +kernel
theorem d_Mo_isSameLevel_0 : decode b_Mo_isSameLevel 0 = .ok (.aload_n 0, 1) := by decide +kernel
theorem d_Mo_isSameLevel_1 : decode b_Mo_isSameLevel 1 = .ok (.iload_n 1, 1) := by decide +kernel
theorem d_Mo_isSameLevel_2 : decode b_Mo_isSameLevel 2 = .ok (.iload_n 2, 1) := by decide +kernel
theorem d_Mo_isSameLevel_3 : decode b_Mo_isSameLevel 3 = .ok (.invokevirtual 92, 3) := by decide +kernel
theorem d_Mo_isSameLevel_6 : decode b_Mo_isSameLevel 6 = .ok (.iconst (-1), 1) := by decide +kernel
theorem d_Mo_isSameLevel_7 : decode b_Mo_isSameLevel 7 = .ok (.if_icmp .ne 17, 3) := by decide +kernel
theorem d_Mo_isSameLevel_10 : decode b_Mo_isSameLevel 10 = .ok (.aload_n 0, 1) := by decide +kernel
theorem d_Mo_isSameLevel_11 : decode b_Mo_isSameLevel 11 = .ok (.iload_n 2, 1) := by decide +kernel
theorem d_Mo_isSameLevel_12 : decode b_Mo_isSameLevel 12 = .ok (.iload_n 1, 1) := by decide +kernel
theorem d_Mo_isSameLevel_13 : decode b_Mo_isSameLevel 13 = .ok (.invokevirtual 92, 3) := by decide +kernel
theorem d_Mo_isSameLevel_16 : decode b_Mo_isSameLevel 16 = .ok (.iconst (-1), 1) := by decide +kernel
theorem d_Mo_isSameLevel_17 : decode b_Mo_isSameLevel 17 = .ok (.if_icmp .ne 7, 3) := by decide +kernel
theorem d_Mo_isSameLevel_20 : decode b_Mo_isSameLevel 20 = .ok (.iconst 1, 1) := by decide +kernel
theorem d_Mo_isSameLevel_21 : decode b_Mo_isSameLevel 21 = .ok (.goto 4, 3) := by decide +kernel
theorem d_Mo_isSameLevel_24 : decode b_Mo_isSameLevel 24 = .ok (.iconst 0, 1) := by decide +kernel
theorem d_Mo_isSameLevel_25 : decode b_Mo_isSameLevel 25 = .ok (.ireturn, 1) := by decide +kernel
theorem d_Mo_least_0 : decode b_Mo_least 0 = .ok (.aload_n 0, 1) := by decide +kernel
theorem d_Mo_least_1 : decode b_Mo_least 1 = .ok (.aload_n 0, 1) := by decide +kernel
theorem d_Mo_least_2 : decode b_Mo_least 2 = .ok (.iload_n 1, 1) := by decide +kernel
theorem d_Mo_least_3 : decode b_Mo_least 3 = .ok (.invokevirtual 69, 3) := by decide +kernel
theorem d_Mo_least_6 : decode b_Mo_least 6 = .ok (.ifCond .ne 7, 3) := by decide +kernel
theorem d_Mo_least_9 : decode b_Mo_least 9 = .ok (.iconst 1, 1) := by decide +kernel
theorem d_Mo_least_10 : decode b_Mo_least 10 = .ok (.goto 4, 3) := by decide +kernel
theorem d_Mo_least_13 : decode b_Mo_least 13 = .ok (.iconst 0, 1) := by decide +kernel
theorem d_Mo_least_14 : decode b_Mo_least 14 = .ok (.invokevirtual 65, 3) := by decide +kernel
theorem d_Mo_least_17 : decode b_Mo_least 17 = .ok (.ifCond .eq 5, 3) := by decide +kernel
theorem d_Mo_least_20 : decode b_Mo_least 20 = .ok (.iconst 0, 1) := by decide +kernel
theorem d_Mo_least_21 : decode b_Mo_least 21 = .ok (.ireturn, 1) := by decide +kernel
theorem d_Mo_least_22 : decode b_Mo_least 22 = .ok (.iconst 0, 1) := by decide +kernel
theorem d_Mo_least_23 : decode b_Mo_least 23 = .ok (.istore_n 2, 1) := by decide +kernel
theorem d_Mo_least_24 : decode b_Mo_least 24 = .ok (.aload_n 0, 1) := by decide +kernel
theorem d_Mo_least_25 : decode b_Mo_least 25 = .ok (.iload_n 2, 1) := by decide +kernel
theorem d_Mo_least_26 : decode b_Mo_least 26 = .ok (.iload_n 1, 1) := by decide +kernel
theorem d_Mo_least_27 : decode b_Mo_least 27 = .ok (.invokevirtual 96, 3) := by decide +kernel
theorem d_Mo_least_30 : decode b_Mo_least 30 = .ok (.ifCond .ne 9, 3) := by decide +kernel
theorem d_Mo_least_33 : decode b_Mo_least 33 = .ok (.iinc 2 1, 3) := by decide +kernel
theorem d_Mo_least_36 : decode b_Mo_least 36 = .ok (.goto (-12), 3) := by decide +kernel
theorem d_Mo_least_39 : decode b_Mo_least 39 = .ok (.iload_n 2, 1) := by decide +kernel
theorem d_Mo_least_40 : decode b_Mo_least 40 = .ok (.ireturn, 1) := by decide +kernel
theorem d_Mo_above_0 : decode b_Mo_above 0 = .ok (.aload_n 0, 1) := by decide +kernel
theorem d_Mo_above_1 : decode b_Mo_above 1 = .ok (.aload_n 0, 1) := by decide +kernel
theorem d_Mo_above_2 : decode b_Mo_above 2 = .ok (.iload_n 1, 1) := by decide +kernel
theorem d_Mo_above_3 : decode b_Mo_above 3 = .ok (.invokevirtual 69, 3) := by decide +kernel
theorem d_Mo_above_6 : decode b_Mo_above 6 = .ok (.ifCond .eq 11, 3) := by decide +kernel
theorem d_Mo_above_9 : decode b_Mo_above 9 = .ok (.aload_n 0, 1) := by decide +kernel
theorem d_Mo_above_10 : decode b_Mo_above 10 = .ok (.iload_n 2, 1) := by decide +kernel
theorem d_Mo_above_11 : decode b_Mo_above 11 = .ok (.invokevirtual 69, 3) := by decide +kernel
theorem d_Mo_above_14 : decode b_Mo_above 14 = .ok (.ifCond .ne 7, 3) := by decide +kernel
theorem d_Mo_above_17 : decode b_Mo_above 17 = .ok (.iconst 1, 1) := by decide +kernel
theorem d_Mo_above_18 : decode b_Mo_above 18 = .ok (.goto 4, 3) := by decide +kernel
theorem d_Mo_above_21 : decode b_Mo_above 21 = .ok (.iconst 0, 1) := by decide +kernel
theorem d_Mo_above_22 : decode b_Mo_above 22 = .ok (.invokevirtual 65, 3) := by decide +kernel
theorem d_Mo_above_25 : decode b_Mo_above 25 = .ok (.ifCond .eq 5, 3) := by decide +kernel
theorem d_Mo_above_28 : decode b_Mo_above 28 = .ok (.lconst 0, 1) := by decide +kernel
theorem d_Mo_above_29 : decode b_Mo_above 29 = .ok (.lreturn, 1) := by decide +kernel
theorem d_Mo_above_30 : decode b_Mo_above 30 = .ok (.aload_n 0, 1) := by decide +kernel
theorem d_Mo_above_31 : decode b_Mo_above 31 = .ok (.iload_n 1, 1) := by decide +kernel
theorem d_Mo_above_32 : decode b_Mo_above 32 = .ok (.iload_n 2, 1) := by decide +kernel
theorem d_Mo_above_33 : decode b_Mo_above 33 = .ok (.invokevirtual 92, 3) := by decide +kernel
theorem d_Mo_above_36 : decode b_Mo_above 36 = .ok (.istore_n 3, 1) := by decide +kernel
theorem d_Mo_above_37 : decode b_Mo_above 37 = .ok (.iload_n 3, 1) := by decide +kernel
theorem d_Mo_above_38 : decode b_Mo_above 38 = .ok (.iconst (-1), 1) := by decide +kernel
theorem d_Mo_above_39 : decode b_Mo_above 39 = .ok (.if_icmp .ne 7, 3) := by decide +kernel
theorem d_Mo_above_42 : decode b_Mo_above 42 = .ok (.ldc2_w 100, 3) := by decide +kernel
theorem d_Mo_above_45 : decode b_Mo_above 45 = .ok (.lreturn, 1) := by decide +kernel
theorem d_Mo_above_46 : decode b_Mo_above 46 = .ok (.lconst 0, 1) := by decide +kernel
theorem d_Mo_above_47 : decode b_Mo_above 47 = .ok (.lstore 4, 2) := by decide +kernel
theorem d_Mo_above_49 : decode b_Mo_above 49 = .ok (.iconst 0, 1) := by decide +kernel
theorem d_Mo_above_50 : decode b_Mo_above 50 = .ok (.istore 6, 2) := by decide +kernel
theorem d_Mo_above_52 : decode b_Mo_above 52 = .ok (.iload 6, 2) := by decide +kernel
theorem d_Mo_above_54 : decode b_Mo_above 54 = .ok (.iconst 5, 1) := by decide +kernel
theorem d_Mo_above_55 : decode b_Mo_above 55 = .ok (.if_icmp .ge 109, 3) := by decide +kernel
theorem d_Mo_above_58 : decode b_Mo_above 58 = .ok (.iload_n 3, 1) := by decide +kernel
theorem d_Mo_above_59 : decode b_Mo_above 59 = .ok (.iload 6, 2) := by decide +kernel
theorem d_Mo_above_61 : decode b_Mo_above 61 = .ok (.ishr, 1) := by decide +kernel
theorem d_Mo_above_62 : decode b_Mo_above 62 = .ok (.iconst 1, 1) := by decide +kernel
theorem d_Mo_above_63 : decode b_Mo_above 63 = .ok (.iand, 1) := by decide +kernel
theorem d_Mo_above_64 : decode b_Mo_above 64 = .ok (.iconst 1, 1) := by decide +kernel
theorem d_Mo_above_65 : decode b_Mo_above 65 = .ok (.if_icmp .ne 7, 3) := by decide +kernel
theorem d_Mo_above_68 : decode b_Mo_above 68 = .ok (.iconst 1, 1) := by decide +kernel
theorem d_Mo_above_69 : decode b_Mo_above 69 = .ok (.goto 4, 3) := by decide +kernel
theorem d_Mo_above_72 : decode b_Mo_above 72 = .ok (.iconst 0, 1) := by decide +kernel
theorem d_Mo_above_73 : decode b_Mo_above 73 = .ok (.istore 7, 2) := by decide +kernel
theorem d_Mo_above_75 : decode b_Mo_above 75 = .ok (.iload 7, 2) := by decide +kernel
theorem d_Mo_above_77 : decode b_Mo_above 77 = .ok (.ifCond .eq 7, 3) := by decide +kernel
theorem d_Mo_above_80 : decode b_Mo_above 80 = .ok (.iconst 1, 1) := by decide +kernel
theorem d_Mo_above_81 : decode b_Mo_above 81 = .ok (.goto 4, 3) := by decide +kernel
theorem d_Mo_above_84 : decode b_Mo_above 84 = .ok (.iconst 0, 1) := by decide +kernel
theorem d_Mo_above_85 : decode b_Mo_above 85 = .ok (.istore 8, 2) := by decide +kernel
theorem d_Mo_above_87 : decode b_Mo_above 87 = .ok (.iconst 0, 1) := by decide +kernel
theorem d_Mo_above_88 : decode b_Mo_above 88 = .ok (.istore 9, 2) := by decide +kernel
theorem d_Mo_above_90 : decode b_Mo_above 90 = .ok (.iload 9, 2) := by decide +kernel
theorem d_Mo_above_92 : decode b_Mo_above 92 = .ok (.ifCond .ne 43, 3) := by decide +kernel
theorem d_Mo_above_95 : decode b_Mo_above 95 = .ok (.aload_n 0, 1) := by decide +kernel
theorem d_Mo_above_96 : decode b_Mo_above 96 = .ok (.getfield 22, 3) := by decide +kernel
theorem d_Mo_above_99 : decode b_Mo_above 99 = .ok (.iload 6, 2) := by decide +kernel
theorem d_Mo_above_101 : decode b_Mo_above 101 = .ok (.iload 8, 2) := by decide +kernel
theorem d_Mo_above_103 : decode b_Mo_above 103 = .ok (.iastore, 1) := by decide +kernel
theorem d_Mo_above_104 : decode b_Mo_above 104 = .ok (.aload_n 0, 1) := by decide +kernel
theorem d_Mo_above_105 : decode b_Mo_above 105 = .ok (.iload_n 1, 1) := by decide +kernel
theorem d_Mo_above_106 : decode b_Mo_above 106 = .ok (.iload_n 2, 1) := by decide +kernel
theorem d_Mo_above_107 : decode b_Mo_above 107 = .ok (.iload_n 3, 1) := by decide +kernel
theorem d_Mo_above_108 : decode b_Mo_above 108 = .ok (.iload 6, 2) := by decide +kernel
theorem d_Mo_above_110 : decode b_Mo_above 110 = .ok (.iconst 1, 1) := by decide +kernel
theorem d_Mo_above_111 : decode b_Mo_above 111 = .ok (.iadd, 1) := by decide +kernel
theorem d_Mo_above_112 : decode b_Mo_above 112 = .ok (.invokevirtual 88, 3) := by decide +kernel
theorem d_Mo_above_115 : decode b_Mo_above 115 = .ok (.istore 9, 2) := by decide +kernel
theorem d_Mo_above_117 : decode b_Mo_above 117 = .ok (.iload 8, 2) := by decide +kernel
theorem d_Mo_above_119 : decode b_Mo_above 119 = .ok (.iload 9, 2) := by decide +kernel
theorem d_Mo_above_121 : decode b_Mo_above 121 = .ok (.ifCond .eq 7, 3) := by decide +kernel
theorem d_Mo_above_124 : decode b_Mo_above 124 = .ok (.iconst 0, 1) := by decide +kernel
theorem d_Mo_above_125 : decode b_Mo_above 125 = .ok (.goto 4, 3) := by decide +kernel
theorem d_Mo_above_128 : decode b_Mo_above 128 = .ok (.iconst 1, 1) := by decide +kernel
theorem d_Mo_above_129 : decode b_Mo_above 129 = .ok (.iadd, 1) := by decide +kernel
theorem d_Mo_above_130 : decode b_Mo_above 130 = .ok (.istore 8, 2) := by decide +kernel
theorem d_Mo_above_132 : decode b_Mo_above 132 = .ok (.goto (-42), 3) := by decide +kernel
theorem d_Mo_above_135 : decode b_Mo_above 135 = .ok (.aload_n 0, 1) := by decide +kernel
theorem d_Mo_above_136 : decode b_Mo_above 136 = .ok (.getfield 22, 3) := by decide +kernel
theorem d_Mo_above_139 : decode b_Mo_above 139 = .ok (.iload 6, 2) := by decide +kernel
theorem d_Mo_above_141 : decode b_Mo_above 141 = .ok (.iload 8, 2) := by decide +kernel
theorem d_Mo_above_143 : decode b_Mo_above 143 = .ok (.iastore, 1) := by decide +kernel
theorem d_Mo_above_144 : decode b_Mo_above 144 = .ok (.lload 4, 2) := by decide +kernel
theorem d_Mo_above_146 : decode b_Mo_above 146 = .ok (.iload 8, 2) := by decide +kernel
theorem d_Mo_above_148 : decode b_Mo_above 148 = .ok (.i2l, 1) := by decide +kernel
theorem d_Mo_above_149 : decode b_Mo_above 149 = .ok (.bipush 12, 2) := by decide +kernel
theorem d_Mo_above_151 : decode b_Mo_above 151 = .ok (.iload 6, 2) := by decide +kernel
theorem d_Mo_above_153 : decode b_Mo_above 153 = .ok (.imul, 1) := by decide +kernel
theorem d_Mo_above_154 : decode b_Mo_above 154 = .ok (.lshl, 1) := by decide +kernel
theorem d_Mo_above_155 : decode b_Mo_above 155 = .ok (.lor, 1) := by decide +kernel
theorem d_Mo_above_156 : decode b_Mo_above 156 = .ok (.lstore 4, 2) := by decide +kernel
theorem d_Mo_above_158 : decode b_Mo_above 158 = .ok (.iinc 6 1, 3) := by decide +kernel
theorem d_Mo_above_161 : decode b_Mo_above 161 = .ok (.goto (-109), 3) := by decide +kernel
theorem d_Mo_above_164 : decode b_Mo_above 164 = .ok (.lload 4, 2) := by decide +kernel
theorem d_Mo_above_166 : decode b_Mo_above 166 = .ok (.lreturn, 1) := by decide +kernel
theorem d_Mo_unknown_0 : decode b_Mo_unknown 0 = .ok (.aload_n 0, 1) := by decide +kernel
theorem d_Mo_unknown_1 : decode b_Mo_unknown 1 = .ok (.aload_n 0, 1) := by decide +kernel
theorem d_Mo_unknown_2 : decode b_Mo_unknown 2 = .ok (.getfield 102, 3) := by decide +kernel
theorem d_Mo_unknown_5 : decode b_Mo_unknown 5 = .ok (.bipush 10, 2) := by decide +kernel
theorem d_Mo_unknown_7 : decode b_Mo_unknown 7 = .ok (.if_icmp .ne 7, 3) := by decide +kernel
theorem d_Mo_unknown_10 : decode b_Mo_unknown 10 = .ok (.iconst 1, 1) := by decide +kernel
theorem d_Mo_unknown_11 : decode b_Mo_unknown 11 = .ok (.goto 4, 3) := by decide +kernel
theorem d_Mo_unknown_14 : decode b_Mo_unknown 14 = .ok (.iconst 0, 1) := by decide +kernel
theorem d_Mo_unknown_15 : decode b_Mo_unknown 15 = .ok (.invokevirtual 65, 3) := by decide +kernel
theorem d_Mo_unknown_18 : decode b_Mo_unknown 18 = .ok (.ifCond .eq 5, 3) := by decide +kernel
theorem d_Mo_unknown_21 : decode b_Mo_unknown 21 = .ok (.iconst 0, 1) := by decide +kernel
theorem d_Mo_unknown_22 : decode b_Mo_unknown 22 = .ok (.ireturn, 1) := by decide +kernel
theorem d_Mo_unknown_23 : decode b_Mo_unknown 23 = .ok (.aload_n 0, 1) := by decide +kernel
theorem d_Mo_unknown_24 : decode b_Mo_unknown 24 = .ok (.dup, 1) := by decide +kernel
theorem d_Mo_unknown_25 : decode b_Mo_unknown 25 = .ok (.getfield 102, 3) := by decide +kernel
theorem d_Mo_unknown_28 : decode b_Mo_unknown 28 = .ok (.iconst 1, 1) := by decide +kernel
theorem d_Mo_unknown_29 : decode b_Mo_unknown 29 = .ok (.iadd, 1) := by decide +kernel
theorem d_Mo_unknown_30 : decode b_Mo_unknown 30 = .ok (.putfield 102, 3) := by decide +kernel
theorem d_Mo_unknown_33 : decode b_Mo_unknown 33 = .ok (.aload_n 0, 1) := by decide +kernel
theorem d_Mo_unknown_34 : decode b_Mo_unknown 34 = .ok (.getfield 102, 3) := by decide +kernel
theorem d_Mo_unknown_37 : decode b_Mo_unknown 37 = .ok (.iconst 1, 1) := by decide +kernel
theorem d_Mo_unknown_38 : decode b_Mo_unknown 38 = .ok (.isub, 1) := by decide +kernel
theorem d_Mo_unknown_39 : decode b_Mo_unknown 39 = .ok (.ireturn, 1) := by decide +kernel
theorem d_Mo_need_0 : decode b_Mo_need 0 = .ok (.aload_n 0, 1) := by decide +kernel
theorem d_Mo_need_1 : decode b_Mo_need 1 = .ok (.aload_n 0, 1) := by decide +kernel
theorem d_Mo_need_2 : decode b_Mo_need 2 = .ok (.iload_n 1, 1) := by decide +kernel
theorem d_Mo_need_3 : decode b_Mo_need 3 = .ok (.invokevirtual 105, 3) := by decide +kernel
theorem d_Mo_need_6 : decode b_Mo_need 6 = .ok (.ifCond .eq 11, 3) := by decide +kernel
theorem d_Mo_need_9 : decode b_Mo_need 9 = .ok (.aload_n 0, 1) := by decide +kernel
theorem d_Mo_need_10 : decode b_Mo_need 10 = .ok (.iload_n 3, 1) := by decide +kernel
theorem d_Mo_need_11 : decode b_Mo_need 11 = .ok (.invokevirtual 105, 3) := by decide +kernel
theorem d_Mo_need_14 : decode b_Mo_need 14 = .ok (.ifCond .ne 7, 3) := by decide +kernel
theorem d_Mo_need_17 : decode b_Mo_need 17 = .ok (.iconst 1, 1) := by decide +kernel
theorem d_Mo_need_18 : decode b_Mo_need 18 = .ok (.goto 33, 3) := by decide +kernel
theorem d_Mo_need_21 : decode b_Mo_need 21 = .ok (.iload_n 2, 1) := by decide +kernel
theorem d_Mo_need_22 : decode b_Mo_need 22 = .ok (.bipush (-20), 2) := by decide +kernel
theorem d_Mo_need_24 : decode b_Mo_need 24 = .ok (.if_icmp .lt 9, 3) := by decide +kernel
theorem d_Mo_need_27 : decode b_Mo_need 27 = .ok (.iload_n 2, 1) := by decide +kernel
theorem d_Mo_need_28 : decode b_Mo_need 28 = .ok (.bipush 20, 2) := by decide +kernel
theorem d_Mo_need_30 : decode b_Mo_need 30 = .ok (.if_icmp .le 7, 3) := by decide +kernel
theorem d_Mo_need_33 : decode b_Mo_need 33 = .ok (.iconst 2, 1) := by decide +kernel
theorem d_Mo_need_34 : decode b_Mo_need 34 = .ok (.goto 17, 3) := by decide +kernel
theorem d_Mo_need_37 : decode b_Mo_need 37 = .ok (.aload_n 0, 1) := by decide +kernel
theorem d_Mo_need_38 : decode b_Mo_need 38 = .ok (.getfield 108, 3) := by decide +kernel
theorem d_Mo_need_41 : decode b_Mo_need 41 = .ok (.bipush 30, 2) := by decide +kernel
theorem d_Mo_need_43 : decode b_Mo_need 43 = .ok (.if_icmp .ne 7, 3) := by decide +kernel
theorem d_Mo_need_46 : decode b_Mo_need 46 = .ok (.iconst 3, 1) := by decide +kernel
theorem d_Mo_need_47 : decode b_Mo_need 47 = .ok (.goto 4, 3) := by decide +kernel
theorem d_Mo_need_50 : decode b_Mo_need 50 = .ok (.iconst 0, 1) := by decide +kernel
theorem d_Mo_need_51 : decode b_Mo_need 51 = .ok (.invokevirtual 65, 3) := by decide +kernel
theorem d_Mo_need_54 : decode b_Mo_need 54 = .ok (.ifCond .eq 5, 3) := by decide +kernel
theorem d_Mo_need_57 : decode b_Mo_need 57 = .ok (.iconst 0, 1) := by decide +kernel
theorem d_Mo_need_58 : decode b_Mo_need 58 = .ok (.ireturn, 1) := by decide +kernel
theorem d_Mo_need_59 : decode b_Mo_need 59 = .ok (.aload_n 0, 1) := by decide +kernel
theorem d_Mo_need_60 : decode b_Mo_need 60 = .ok (.getfield 34, 3) := by decide +kernel
theorem d_Mo_need_63 : decode b_Mo_need 63 = .ok (.aload_n 0, 1) := by decide +kernel
theorem d_Mo_need_64 : decode b_Mo_need 64 = .ok (.getfield 108, 3) := by decide +kernel
theorem d_Mo_need_67 : decode b_Mo_need 67 = .ok (.iload_n 1, 1) := by decide +kernel
theorem d_Mo_need_68 : decode b_Mo_need 68 = .ok (.iastore, 1) := by decide +kernel
theorem d_Mo_need_69 : decode b_Mo_need 69 = .ok (.aload_n 0, 1) := by decide +kernel
theorem d_Mo_need_70 : decode b_Mo_need 70 = .ok (.getfield 37, 3) := by decide +kernel
theorem d_Mo_need_73 : decode b_Mo_need 73 = .ok (.aload_n 0, 1) := by decide +kernel
theorem d_Mo_need_74 : decode b_Mo_need 74 = .ok (.getfield 108, 3) := by decide +kernel
theorem d_Mo_need_77 : decode b_Mo_need 77 = .ok (.iload_n 2, 1) := by decide +kernel
theorem d_Mo_need_78 : decode b_Mo_need 78 = .ok (.iastore, 1) := by decide +kernel
theorem d_Mo_need_79 : decode b_Mo_need 79 = .ok (.aload_n 0, 1) := by decide +kernel
theorem d_Mo_need_80 : decode b_Mo_need 80 = .ok (.getfield 40, 3) := by decide +kernel
theorem d_Mo_need_83 : decode b_Mo_need 83 = .ok (.aload_n 0, 1) := by decide +kernel
theorem d_Mo_need_84 : decode b_Mo_need 84 = .ok (.getfield 108, 3) := by decide +kernel
theorem d_Mo_need_87 : decode b_Mo_need 87 = .ok (.iload_n 3, 1) := by decide +kernel
theorem d_Mo_need_88 : decode b_Mo_need 88 = .ok (.iastore, 1) := by decide +kernel
theorem d_Mo_need_89 : decode b_Mo_need 89 = .ok (.aload_n 0, 1) := by decide +kernel
theorem d_Mo_need_90 : decode b_Mo_need 90 = .ok (.dup, 1) := by decide +kernel
theorem d_Mo_need_91 : decode b_Mo_need 91 = .ok (.getfield 108, 3) := by decide +kernel
theorem d_Mo_need_94 : decode b_Mo_need 94 = .ok (.iconst 1, 1) := by decide +kernel
theorem d_Mo_need_95 : decode b_Mo_need 95 = .ok (.iadd, 1) := by decide +kernel
theorem d_Mo_need_96 : decode b_Mo_need 96 = .ok (.putfield 108, 3) := by decide +kernel
theorem d_Mo_need_99 : decode b_Mo_need 99 = .ok (.aload_n 0, 1) := by decide +kernel
theorem d_Mo_need_100 : decode b_Mo_need 100 = .ok (.getfield 108, 3) := by decide +kernel
theorem d_Mo_need_103 : decode b_Mo_need 103 = .ok (.iconst 1, 1) := by decide +kernel
theorem d_Mo_need_104 : decode b_Mo_need 104 = .ok (.isub, 1) := by decide +kernel
theorem d_Mo_need_105 : decode b_Mo_need 105 = .ok (.ireturn, 1) := by decide +kernel
theorem d_Mo_isSide_0 : decode b_Mo_isSide 0 = .ok (.iload_n 1, 1) := by decide +kernel
theorem d_Mo_isSide_1 : decode b_Mo_isSide 1 = .ok (.iconst (-1), 1) := by decide +kernel
theorem d_Mo_isSide_2 : decode b_Mo_isSide 2 = .ok (.if_icmp .lt 15, 3) := by decide +kernel
theorem d_Mo_isSide_5 : decode b_Mo_isSide 5 = .ok (.iload_n 1, 1) := by decide +kernel
theorem d_Mo_isSide_6 : decode b_Mo_isSide 6 = .ok (.aload_n 0, 1) := by decide +kernel
theorem d_Mo_isSide_7 : decode b_Mo_isSide 7 = .ok (.getfield 102, 3) := by decide +kernel
theorem d_Mo_isSide_10 : decode b_Mo_isSide 10 = .ok (.if_icmp .ge 7, 3) := by decide +kernel
theorem d_Mo_isSide_13 : decode b_Mo_isSide 13 = .ok (.iconst 1, 1) := by decide +kernel
theorem d_Mo_isSide_14 : decode b_Mo_isSide 14 = .ok (.goto 4, 3) := by decide +kernel
theorem d_Mo_isSide_17 : decode b_Mo_isSide 17 = .ok (.iconst 0, 1) := by decide +kernel
theorem d_Mo_isSide_18 : decode b_Mo_isSide 18 = .ok (.ireturn, 1) := by decide +kernel
theorem d_Mo_isSolved_0 : decode b_Mo_isSolved 0 = .ok (.aload_n 0, 1) := by decide +kernel
theorem d_Mo_isSolved_1 : decode b_Mo_isSolved 1 = .ok (.iconst 0, 1) := by decide +kernel
theorem d_Mo_isSolved_2 : decode b_Mo_isSolved 2 = .ok (.putfield 50, 3) := by decide +kernel
theorem d_Mo_isSolved_5 : decode b_Mo_isSolved 5 = .ok (.aload_n 0, 1) := by decide +kernel
theorem d_Mo_isSolved_6 : decode b_Mo_isSolved 6 = .ok (.invokevirtual 115, 3) := by decide +kernel
theorem d_Mo_isSolved_9 : decode b_Mo_isSolved 9 = .ok (.ireturn, 1) := by decide +kernel
theorem d_Mo_solvesAll_0 : decode b_Mo_solvesAll 0 = .ok (.iconst 0, 1) := by decide +kernel
theorem d_Mo_solvesAll_1 : decode b_Mo_solvesAll 1 = .ok (.istore_n 1, 1) := by decide +kernel
theorem d_Mo_solvesAll_2 : decode b_Mo_solvesAll 2 = .ok (.iload_n 1, 1) := by decide +kernel
theorem d_Mo_solvesAll_3 : decode b_Mo_solvesAll 3 = .ok (.aload_n 0, 1) := by decide +kernel
theorem d_Mo_solvesAll_4 : decode b_Mo_solvesAll 4 = .ok (.getfield 108, 3) := by decide +kernel
theorem d_Mo_solvesAll_7 : decode b_Mo_solvesAll 7 = .ok (.if_icmp .ge 16, 3) := by decide +kernel
theorem d_Mo_solvesAll_10 : decode b_Mo_solvesAll 10 = .ok (.aload_n 0, 1) := by decide +kernel
theorem d_Mo_solvesAll_11 : decode b_Mo_solvesAll 11 = .ok (.getfield 46, 3) := by decide +kernel
theorem d_Mo_solvesAll_14 : decode b_Mo_solvesAll 14 = .ok (.iload_n 1, 1) := by decide +kernel
theorem d_Mo_solvesAll_15 : decode b_Mo_solvesAll 15 = .ok (.iconst 1, 1) := by decide +kernel
theorem d_Mo_solvesAll_16 : decode b_Mo_solvesAll 16 = .ok (.bastore, 1) := by decide +kernel
theorem d_Mo_solvesAll_17 : decode b_Mo_solvesAll 17 = .ok (.iinc 1 1, 3) := by decide +kernel
theorem d_Mo_solvesAll_20 : decode b_Mo_solvesAll 20 = .ok (.goto (-18), 3) := by decide +kernel
theorem d_Mo_solvesAll_23 : decode b_Mo_solvesAll 23 = .ok (.aload_n 0, 1) := by decide +kernel
theorem d_Mo_solvesAll_24 : decode b_Mo_solvesAll 24 = .ok (.invokevirtual 111, 3) := by decide +kernel
theorem d_Mo_solvesAll_27 : decode b_Mo_solvesAll 27 = .ok (.ireturn, 1) := by decide +kernel
theorem d_Mo_solves_0 : decode b_Mo_solves 0 = .ok (.iconst 0, 1) := by decide +kernel
theorem d_Mo_solves_1 : decode b_Mo_solves 1 = .ok (.istore_n 1, 1) := by decide +kernel
theorem d_Mo_solves_2 : decode b_Mo_solves 2 = .ok (.iload_n 1, 1) := by decide +kernel
theorem d_Mo_solves_3 : decode b_Mo_solves 3 = .ok (.bipush 10, 2) := by decide +kernel
theorem d_Mo_solves_5 : decode b_Mo_solves 5 = .ok (.if_icmp .ge 16, 3) := by decide +kernel
theorem d_Mo_solves_8 : decode b_Mo_solves 8 = .ok (.aload_n 0, 1) := by decide +kernel
theorem d_Mo_solves_9 : decode b_Mo_solves 9 = .ok (.getfield 43, 3) := by decide +kernel
theorem d_Mo_solves_12 : decode b_Mo_solves 12 = .ok (.iload_n 1, 1) := by decide +kernel
theorem d_Mo_solves_13 : decode b_Mo_solves 13 = .ok (.iconst 0, 1) := by decide +kernel
theorem d_Mo_solves_14 : decode b_Mo_solves 14 = .ok (.iastore, 1) := by decide +kernel
theorem d_Mo_solves_15 : decode b_Mo_solves 15 = .ok (.iinc 1 1, 3) := by decide +kernel
theorem d_Mo_solves_18 : decode b_Mo_solves 18 = .ok (.goto (-16), 3) := by decide +kernel
theorem d_Mo_solves_21 : decode b_Mo_solves 21 = .ok (.iconst 1, 1) := by decide +kernel
theorem d_Mo_solves_22 : decode b_Mo_solves 22 = .ok (.istore_n 1, 1) := by decide +kernel
theorem d_Mo_solves_23 : decode b_Mo_solves 23 = .ok (.iload_n 1, 1) := by decide +kernel
theorem d_Mo_solves_24 : decode b_Mo_solves 24 = .ok (.ifCond .eq 131, 3) := by decide +kernel
theorem d_Mo_solves_27 : decode b_Mo_solves 27 = .ok (.iconst 0, 1) := by decide +kernel
theorem d_Mo_solves_28 : decode b_Mo_solves 28 = .ok (.istore_n 1, 1) := by decide +kernel
theorem d_Mo_solves_29 : decode b_Mo_solves 29 = .ok (.iconst 0, 1) := by decide +kernel
theorem d_Mo_solves_30 : decode b_Mo_solves 30 = .ok (.istore_n 2, 1) := by decide +kernel
theorem d_Mo_solves_31 : decode b_Mo_solves 31 = .ok (.iload_n 2, 1) := by decide +kernel
theorem d_Mo_solves_32 : decode b_Mo_solves 32 = .ok (.aload_n 0, 1) := by decide +kernel
theorem d_Mo_solves_33 : decode b_Mo_solves 33 = .ok (.getfield 108, 3) := by decide +kernel
theorem d_Mo_solves_36 : decode b_Mo_solves 36 = .ok (.if_icmp .ge 116, 3) := by decide +kernel
theorem d_Mo_solves_39 : decode b_Mo_solves 39 = .ok (.aload_n 0, 1) := by decide +kernel
theorem d_Mo_solves_40 : decode b_Mo_solves 40 = .ok (.getfield 46, 3) := by decide +kernel
theorem d_Mo_solves_43 : decode b_Mo_solves 43 = .ok (.iload_n 2, 1) := by decide +kernel
theorem d_Mo_solves_44 : decode b_Mo_solves 44 = .ok (.baload, 1) := by decide +kernel
theorem d_Mo_solves_45 : decode b_Mo_solves 45 = .ok (.ifCond .ne 6, 3) := by decide +kernel
theorem d_Mo_solves_48 : decode b_Mo_solves 48 = .ok (.goto 98, 3) := by decide +kernel
theorem d_Mo_solves_51 : decode b_Mo_solves 51 = .ok (.aload_n 0, 1) := by decide +kernel
theorem d_Mo_solves_52 : decode b_Mo_solves 52 = .ok (.getfield 34, 3) := by decide +kernel
theorem d_Mo_solves_55 : decode b_Mo_solves 55 = .ok (.iload_n 2, 1) := by decide +kernel
theorem d_Mo_solves_56 : decode b_Mo_solves 56 = .ok (.iaload, 1) := by decide +kernel
theorem d_Mo_solves_57 : decode b_Mo_solves 57 = .ok (.ifCond .ge 7, 3) := by decide +kernel
theorem d_Mo_solves_60 : decode b_Mo_solves 60 = .ok (.iconst 0, 1) := by decide +kernel
theorem d_Mo_solves_61 : decode b_Mo_solves 61 = .ok (.goto 14, 3) := by decide +kernel
theorem d_Mo_solves_64 : decode b_Mo_solves 64 = .ok (.aload_n 0, 1) := by decide +kernel
theorem d_Mo_solves_65 : decode b_Mo_solves 65 = .ok (.getfield 43, 3) := by decide +kernel
theorem d_Mo_solves_68 : decode b_Mo_solves 68 = .ok (.aload_n 0, 1) := by decide +kernel
theorem d_Mo_solves_69 : decode b_Mo_solves 69 = .ok (.getfield 34, 3) := by decide +kernel
theorem d_Mo_solves_72 : decode b_Mo_solves 72 = .ok (.iload_n 2, 1) := by decide +kernel
theorem d_Mo_solves_73 : decode b_Mo_solves 73 = .ok (.iaload, 1) := by decide +kernel
theorem d_Mo_solves_74 : decode b_Mo_solves 74 = .ok (.iaload, 1) := by decide +kernel
theorem d_Mo_solves_75 : decode b_Mo_solves 75 = .ok (.aload_n 0, 1) := by decide +kernel
theorem d_Mo_solves_76 : decode b_Mo_solves 76 = .ok (.getfield 37, 3) := by decide +kernel
theorem d_Mo_solves_79 : decode b_Mo_solves 79 = .ok (.iload_n 2, 1) := by decide +kernel
theorem d_Mo_solves_80 : decode b_Mo_solves 80 = .ok (.iaload, 1) := by decide +kernel
theorem d_Mo_solves_81 : decode b_Mo_solves 81 = .ok (.iadd, 1) := by decide +kernel
theorem d_Mo_solves_82 : decode b_Mo_solves 82 = .ok (.istore_n 3, 1) := by decide +kernel
theorem d_Mo_solves_83 : decode b_Mo_solves 83 = .ok (.aload_n 0, 1) := by decide +kernel
theorem d_Mo_solves_84 : decode b_Mo_solves 84 = .ok (.getfield 40, 3) := by decide +kernel
theorem d_Mo_solves_87 : decode b_Mo_solves 87 = .ok (.iload_n 2, 1) := by decide +kernel
theorem d_Mo_solves_88 : decode b_Mo_solves 88 = .ok (.iaload, 1) := by decide +kernel
theorem d_Mo_solves_89 : decode b_Mo_solves 89 = .ok (.ifCond .ge 10, 3) := by decide +kernel
theorem d_Mo_solves_92 : decode b_Mo_solves 92 = .ok (.iload_n 3, 1) := by decide +kernel
theorem d_Mo_solves_93 : decode b_Mo_solves 93 = .ok (.ifCond .le 15, 3) := by decide +kernel
theorem d_Mo_solves_96 : decode b_Mo_solves 96 = .ok (.goto 10, 3) := by decide +kernel
theorem d_Mo_solves_99 : decode b_Mo_solves 99 = .ok (.iload_n 3, 1) := by decide +kernel
theorem d_Mo_solves_100 : decode b_Mo_solves 100 = .ok (.sipush 200, 3) := by decide +kernel
theorem d_Mo_solves_103 : decode b_Mo_solves 103 = .ok (.if_icmp .le 5, 3) := by decide +kernel
theorem d_Mo_solves_106 : decode b_Mo_solves 106 = .ok (.iconst 0, 1) := by decide +kernel
theorem d_Mo_solves_107 : decode b_Mo_solves 107 = .ok (.ireturn, 1) := by decide +kernel
theorem d_Mo_solves_108 : decode b_Mo_solves 108 = .ok (.aload_n 0, 1) := by decide +kernel
theorem d_Mo_solves_109 : decode b_Mo_solves 109 = .ok (.getfield 40, 3) := by decide +kernel
theorem d_Mo_solves_112 : decode b_Mo_solves 112 = .ok (.iload_n 2, 1) := by decide +kernel
theorem d_Mo_solves_113 : decode b_Mo_solves 113 = .ok (.iaload, 1) := by decide +kernel
theorem d_Mo_solves_114 : decode b_Mo_solves 114 = .ok (.ifCond .lt 32, 3) := by decide +kernel
theorem d_Mo_solves_117 : decode b_Mo_solves 117 = .ok (.aload_n 0, 1) := by decide +kernel
theorem d_Mo_solves_118 : decode b_Mo_solves 118 = .ok (.getfield 43, 3) := by decide +kernel
theorem d_Mo_solves_121 : decode b_Mo_solves 121 = .ok (.aload_n 0, 1) := by decide +kernel
theorem d_Mo_solves_122 : decode b_Mo_solves 122 = .ok (.getfield 40, 3) := by decide +kernel
theorem d_Mo_solves_125 : decode b_Mo_solves 125 = .ok (.iload_n 2, 1) := by decide +kernel
theorem d_Mo_solves_126 : decode b_Mo_solves 126 = .ok (.iaload, 1) := by decide +kernel
theorem d_Mo_solves_127 : decode b_Mo_solves 127 = .ok (.iaload, 1) := by decide +kernel
theorem d_Mo_solves_128 : decode b_Mo_solves 128 = .ok (.iload_n 3, 1) := by decide +kernel
theorem d_Mo_solves_129 : decode b_Mo_solves 129 = .ok (.if_icmp .ge 17, 3) := by decide +kernel
theorem d_Mo_solves_132 : decode b_Mo_solves 132 = .ok (.aload_n 0, 1) := by decide +kernel
theorem d_Mo_solves_133 : decode b_Mo_solves 133 = .ok (.getfield 43, 3) := by decide +kernel
theorem d_Mo_solves_136 : decode b_Mo_solves 136 = .ok (.aload_n 0, 1) := by decide +kernel
theorem d_Mo_solves_137 : decode b_Mo_solves 137 = .ok (.getfield 40, 3) := by decide +kernel
theorem d_Mo_solves_140 : decode b_Mo_solves 140 = .ok (.iload_n 2, 1) := by decide +kernel
theorem d_Mo_solves_141 : decode b_Mo_solves 141 = .ok (.iaload, 1) := by decide +kernel
theorem d_Mo_solves_142 : decode b_Mo_solves 142 = .ok (.iload_n 3, 1) := by decide +kernel
theorem d_Mo_solves_143 : decode b_Mo_solves 143 = .ok (.iastore, 1) := by decide +kernel
theorem d_Mo_solves_144 : decode b_Mo_solves 144 = .ok (.iconst 1, 1) := by decide +kernel
theorem d_Mo_solves_145 : decode b_Mo_solves 145 = .ok (.istore_n 1, 1) := by decide +kernel
theorem d_Mo_solves_146 : decode b_Mo_solves 146 = .ok (.iinc 2 1, 3) := by decide +kernel
theorem d_Mo_solves_149 : decode b_Mo_solves 149 = .ok (.goto (-118), 3) := by decide +kernel
theorem d_Mo_solves_152 : decode b_Mo_solves 152 = .ok (.goto (-129), 3) := by decide +kernel
theorem d_Mo_solves_155 : decode b_Mo_solves 155 = .ok (.iconst 1, 1) := by decide +kernel
theorem d_Mo_solves_156 : decode b_Mo_solves 156 = .ok (.ireturn, 1) := by decide +kernel
theorem d_Mo_solution_0 : decode b_Mo_solution 0 = .ok (.aload_n 0, 1) := by decide +kernel
theorem d_Mo_solution_1 : decode b_Mo_solution 1 = .ok (.iconst 0, 1) := by decide +kernel
theorem d_Mo_solution_2 : decode b_Mo_solution 2 = .ok (.putfield 50, 3) := by decide +kernel
theorem d_Mo_solution_5 : decode b_Mo_solution 5 = .ok (.iload_n 1, 1) := by decide +kernel
theorem d_Mo_solution_6 : decode b_Mo_solution 6 = .ok (.ifCond .lt 27, 3) := by decide +kernel
theorem d_Mo_solution_9 : decode b_Mo_solution 9 = .ok (.iload_n 1, 1) := by decide +kernel
theorem d_Mo_solution_10 : decode b_Mo_solution 10 = .ok (.aload_n 0, 1) := by decide +kernel
theorem d_Mo_solution_11 : decode b_Mo_solution 11 = .ok (.getfield 102, 3) := by decide +kernel
theorem d_Mo_solution_14 : decode b_Mo_solution 14 = .ok (.if_icmp .ge 19, 3) := by decide +kernel
theorem d_Mo_solution_17 : decode b_Mo_solution 17 = .ok (.aload_n 0, 1) := by decide +kernel
theorem d_Mo_solution_18 : decode b_Mo_solution 18 = .ok (.invokevirtual 115, 3) := by decide +kernel
theorem d_Mo_solution_21 : decode b_Mo_solution 21 = .ok (.ifCond .eq 12, 3) := by decide +kernel
theorem d_Mo_solution_24 : decode b_Mo_solution 24 = .ok (.aload_n 0, 1) := by decide +kernel
theorem d_Mo_solution_25 : decode b_Mo_solution 25 = .ok (.getfield 43, 3) := by decide +kernel
theorem d_Mo_solution_28 : decode b_Mo_solution 28 = .ok (.iload_n 1, 1) := by decide +kernel
theorem d_Mo_solution_29 : decode b_Mo_solution 29 = .ok (.iaload, 1) := by decide +kernel
theorem d_Mo_solution_30 : decode b_Mo_solution 30 = .ok (.goto 4, 3) := by decide +kernel
theorem d_Mo_solution_33 : decode b_Mo_solution 33 = .ok (.iconst (-1), 1) := by decide +kernel
theorem d_Mo_solution_34 : decode b_Mo_solution 34 = .ok (.ireturn, 1) := by decide +kernel
theorem d_Mo_isClash_0 : decode b_Mo_isClash 0 = .ok (.aload_n 0, 1) := by decide +kernel
theorem d_Mo_isClash_1 : decode b_Mo_isClash 1 = .ok (.iconst 0, 1) := by decide +kernel
theorem d_Mo_isClash_2 : decode b_Mo_isClash 2 = .ok (.putfield 50, 3) := by decide +kernel
theorem d_Mo_isClash_5 : decode b_Mo_isClash 5 = .ok (.iload_n 1, 1) := by decide +kernel
theorem d_Mo_isClash_6 : decode b_Mo_isClash 6 = .ok (.ifCond .lt 18, 3) := by decide +kernel
theorem d_Mo_isClash_9 : decode b_Mo_isClash 9 = .ok (.iload_n 1, 1) := by decide +kernel
theorem d_Mo_isClash_10 : decode b_Mo_isClash 10 = .ok (.aload_n 0, 1) := by decide +kernel
theorem d_Mo_isClash_11 : decode b_Mo_isClash 11 = .ok (.getfield 108, 3) := by decide +kernel
theorem d_Mo_isClash_14 : decode b_Mo_isClash 14 = .ok (.if_icmp .ge 10, 3) := by decide +kernel
theorem d_Mo_isClash_17 : decode b_Mo_isClash 17 = .ok (.aload_n 0, 1) := by decide +kernel
theorem d_Mo_isClash_18 : decode b_Mo_isClash 18 = .ok (.invokevirtual 115, 3) := by decide +kernel
theorem d_Mo_isClash_21 : decode b_Mo_isClash 21 = .ok (.ifCond .eq 5, 3) := by decide +kernel
theorem d_Mo_isClash_24 : decode b_Mo_isClash 24 = .ok (.iconst 0, 1) := by decide +kernel
theorem d_Mo_isClash_25 : decode b_Mo_isClash 25 = .ok (.ireturn, 1) := by decide +kernel
theorem d_Mo_isClash_26 : decode b_Mo_isClash 26 = .ok (.aload_n 0, 1) := by decide +kernel
theorem d_Mo_isClash_27 : decode b_Mo_isClash 27 = .ok (.getfield 108, 3) := by decide +kernel
theorem d_Mo_isClash_30 : decode b_Mo_isClash 30 = .ok (.iconst 1, 1) := by decide +kernel
theorem d_Mo_isClash_31 : decode b_Mo_isClash 31 = .ok (.isub, 1) := by decide +kernel
theorem d_Mo_isClash_32 : decode b_Mo_isClash 32 = .ok (.istore_n 2, 1) := by decide +kernel
theorem d_Mo_isClash_33 : decode b_Mo_isClash 33 = .ok (.iload_n 2, 1) := by decide +kernel
theorem d_Mo_isClash_34 : decode b_Mo_isClash 34 = .ok (.ifCond .lt 26, 3) := by decide +kernel
theorem d_Mo_isClash_37 : decode b_Mo_isClash 37 = .ok (.aload_n 0, 1) := by decide +kernel
theorem d_Mo_isClash_38 : decode b_Mo_isClash 38 = .ok (.getfield 46, 3) := by decide +kernel
theorem d_Mo_isClash_41 : decode b_Mo_isClash 41 = .ok (.iload_n 2, 1) := by decide +kernel
theorem d_Mo_isClash_42 : decode b_Mo_isClash 42 = .ok (.iconst 0, 1) := by decide +kernel
theorem d_Mo_isClash_43 : decode b_Mo_isClash 43 = .ok (.bastore, 1) := by decide +kernel
theorem d_Mo_isClash_44 : decode b_Mo_isClash 44 = .ok (.aload_n 0, 1) := by decide +kernel
theorem d_Mo_isClash_45 : decode b_Mo_isClash 45 = .ok (.getfield 46, 3) := by decide +kernel
theorem d_Mo_isClash_48 : decode b_Mo_isClash 48 = .ok (.iload_n 2, 1) := by decide +kernel
theorem d_Mo_isClash_49 : decode b_Mo_isClash 49 = .ok (.aload_n 0, 1) := by decide +kernel
theorem d_Mo_isClash_50 : decode b_Mo_isClash 50 = .ok (.invokevirtual 111, 3) := by decide +kernel
theorem d_Mo_isClash_53 : decode b_Mo_isClash 53 = .ok (.bastore, 1) := by decide +kernel
theorem d_Mo_isClash_54 : decode b_Mo_isClash 54 = .ok (.iinc 2 (-1), 3) := by decide +kernel
theorem d_Mo_isClash_57 : decode b_Mo_isClash 57 = .ok (.goto (-24), 3) := by decide +kernel
theorem d_Mo_isClash_60 : decode b_Mo_isClash 60 = .ok (.aload_n 0, 1) := by decide +kernel
theorem d_Mo_isClash_61 : decode b_Mo_isClash 61 = .ok (.getfield 46, 3) := by decide +kernel
theorem d_Mo_isClash_64 : decode b_Mo_isClash 64 = .ok (.iload_n 1, 1) := by decide +kernel
theorem d_Mo_isClash_65 : decode b_Mo_isClash 65 = .ok (.baload, 1) := by decide +kernel
theorem d_Mo_isClash_66 : decode b_Mo_isClash 66 = .ok (.ireturn, 1) := by decide +kernel
theorem d_Mo_undo_0 : decode b_Mo_undo 0 = .ok (.aload_n 0, 1) := by decide +kernel
theorem d_Mo_undo_1 : decode b_Mo_undo 1 = .ok (.iconst 0, 1) := by decide +kernel
theorem d_Mo_undo_2 : decode b_Mo_undo 2 = .ok (.putfield 50, 3) := by decide +kernel
theorem d_Mo_undo_5 : decode b_Mo_undo 5 = .ok (.aload_n 0, 1) := by decide +kernel
theorem d_Mo_undo_6 : decode b_Mo_undo 6 = .ok (.getfield 108, 3) := by decide +kernel
theorem d_Mo_undo_9 : decode b_Mo_undo 9 = .ok (.ifCond .le 7, 3) := by decide +kernel
theorem d_Mo_undo_12 : decode b_Mo_undo 12 = .ok (.iconst 1, 1) := by decide +kernel
theorem d_Mo_undo_13 : decode b_Mo_undo 13 = .ok (.goto 4, 3) := by decide +kernel
theorem d_Mo_undo_16 : decode b_Mo_undo 16 = .ok (.iconst 0, 1) := by decide +kernel
theorem d_Mo_undo_17 : decode b_Mo_undo 17 = .ok (.istore_n 1, 1) := by decide +kernel
theorem d_Mo_undo_18 : decode b_Mo_undo 18 = .ok (.aload_n 0, 1) := by decide +kernel
theorem d_Mo_undo_19 : decode b_Mo_undo 19 = .ok (.dup, 1) := by decide +kernel
theorem d_Mo_undo_20 : decode b_Mo_undo 20 = .ok (.getfield 108, 3) := by decide +kernel
theorem d_Mo_undo_23 : decode b_Mo_undo 23 = .ok (.iload_n 1, 1) := by decide +kernel
theorem d_Mo_undo_24 : decode b_Mo_undo 24 = .ok (.ifCond .eq 7, 3) := by decide +kernel
theorem d_Mo_undo_27 : decode b_Mo_undo 27 = .ok (.iconst 1, 1) := by decide +kernel
theorem d_Mo_undo_28 : decode b_Mo_undo 28 = .ok (.goto 4, 3) := by decide +kernel
theorem d_Mo_undo_31 : decode b_Mo_undo 31 = .ok (.iconst 0, 1) := by decide +kernel
theorem d_Mo_undo_32 : decode b_Mo_undo 32 = .ok (.isub, 1) := by decide +kernel
theorem d_Mo_undo_33 : decode b_Mo_undo 33 = .ok (.putfield 108, 3) := by decide +kernel
theorem d_Mo_undo_36 : decode b_Mo_undo 36 = .ok (.iload_n 1, 1) := by decide +kernel
theorem d_Mo_undo_37 : decode b_Mo_undo 37 = .ok (.ireturn, 1) := by decide +kernel
theorem d_Mo_about_0 : decode b_Mo_about 0 = .ok (.aload_n 0, 1) := by decide +kernel
theorem d_Mo_about_1 : decode b_Mo_about 1 = .ok (.iconst 0, 1) := by decide +kernel
theorem d_Mo_about_2 : decode b_Mo_about 2 = .ok (.putfield 50, 3) := by decide +kernel
theorem d_Mo_about_5 : decode b_Mo_about 5 = .ok (.iload_n 1, 1) := by decide +kernel
theorem d_Mo_about_6 : decode b_Mo_about 6 = .ok (.ifCond .ne 10, 3) := by decide +kernel
theorem d_Mo_about_9 : decode b_Mo_about 9 = .ok (.aload_n 0, 1) := by decide +kernel
theorem d_Mo_about_10 : decode b_Mo_about 10 = .ok (.getfield 54, 3) := by decide +kernel
theorem d_Mo_about_13 : decode b_Mo_about 13 = .ok (.goto 28, 3) := by decide +kernel
theorem d_Mo_about_16 : decode b_Mo_about 16 = .ok (.iload_n 1, 1) := by decide +kernel
theorem d_Mo_about_17 : decode b_Mo_about 17 = .ok (.iconst 1, 1) := by decide +kernel
theorem d_Mo_about_18 : decode b_Mo_about 18 = .ok (.if_icmp .ne 10, 3) := by decide +kernel
theorem d_Mo_about_21 : decode b_Mo_about 21 = .ok (.aload_n 0, 1) := by decide +kernel
theorem d_Mo_about_22 : decode b_Mo_about 22 = .ok (.getfield 102, 3) := by decide +kernel
theorem d_Mo_about_25 : decode b_Mo_about 25 = .ok (.goto 16, 3) := by decide +kernel
theorem d_Mo_about_28 : decode b_Mo_about 28 = .ok (.iload_n 1, 1) := by decide +kernel
theorem d_Mo_about_29 : decode b_Mo_about 29 = .ok (.iconst 2, 1) := by decide +kernel
theorem d_Mo_about_30 : decode b_Mo_about 30 = .ok (.if_icmp .ne 10, 3) := by decide +kernel
theorem d_Mo_about_33 : decode b_Mo_about 33 = .ok (.aload_n 0, 1) := by decide +kernel
theorem d_Mo_about_34 : decode b_Mo_about 34 = .ok (.getfield 108, 3) := by decide +kernel
theorem d_Mo_about_37 : decode b_Mo_about 37 = .ok (.goto 4, 3) := by decide +kernel
theorem d_Mo_about_40 : decode b_Mo_about 40 = .ok (.iconst (-1), 1) := by decide +kernel
theorem d_Mo_about_41 : decode b_Mo_about 41 = .ok (.ireturn, 1) := by decide +kernel
end
section
/-! Rows that this claim uses often: places named by numbers; calls that only read. -/
abbrev rmH (h mc ms : Nat) : Room := { frames := h, cells := mc, slots := ms, locals := 32 * h }
section RY
variable {p : Program} {l : Launch} {e : Env} {R : Room} {s : State} {m : MethodId} {args : Array Value} {below : List Frame} {meth : Method} {c : Code} {H : Heap} {locs : List Loc} {cells slots : Nat} {Q : State → Prop}
variable {cc : ByteArray} {pc : Nat} {ls : Array Slot} {rest : List Value} {D : va_G} {cl : List vw_C} {A : Nat → Prop} {a : Nat} {tys : List (ClassId × FieldType)} {ws : va_W} {H0 : Heap}
theorem ry_iald (hexec : p.tables.exec = Jvm.exec) (hb : c.code = cc) (hK : va_K D cl tys s) (hP : va_P D cl ws H) (q0 t0 : Nat) {cA : ClassId} {n : Nat} {f : Nat → Int32} (ha : ws[q0]? = some (a, .inl (cA, n, .inl f))) (ht : tys[t0]? = some (cA, .int)) {j : Nat} (hj : j < n) (hn : n < 2 ^ 31) (hdg : decode cc pc = .ok (.iaload, 1))
    (kk : W p l e R s m args below meth c H locs cells slots Q (F0 m (pc + 1) ls (.int (f j) :: rest))) : W p l e R s m args below meth c H locs cells slots Q (F0 m pc ls (.int (nI j) :: .ref a :: rest)) :=
  va_iald hexec hb hK hP q0 t0 ha ht (vp_in_nI hj hn) hdg (by rw [nI_clamp (Nat.lt_trans hj hn)]; exact kk)
theorem ry_zald (hexec : p.tables.exec = Jvm.exec) (hb : c.code = cc) (hK : va_K D cl tys s) (hP : va_P D cl ws H) (q0 t0 : Nat) {cA : ClassId} {n : Nat} {f : Nat → Int32} (ha : ws[q0]? = some (a, .inl (cA, n, .inl f))) (ht : tys[t0]? = some (cA, .boolean)) {j : Nat} (hj : j < n) (hn : n < 2 ^ 31) (hdg : decode cc pc = .ok (.baload, 1))
    (kk : W p l e R s m args below meth c H locs cells slots Q (F0 m (pc + 1) ls (.int (f j) :: rest))) : W p l e R s m args below meth c H locs cells slots Q (F0 m pc ls (.int (nI j) :: .ref a :: rest)) :=
  va_zald hexec hb hK hP q0 t0 ha ht (vp_in_nI hj hn) hdg (by rw [nI_clamp (Nat.lt_trans hj hn)]; exact kk)
theorem ry_lald (hexec : p.tables.exec = Jvm.exec) (hb : c.code = cc) (hK : va_K D cl tys s) (hP : va_P D cl ws H) (q0 t0 : Nat) {cA : ClassId} {n : Nat} {f : Nat → Int64} (ha : ws[q0]? = some (a, .inl (cA, n, .inr (.inl f)))) (ht : tys[t0]? = some (cA, .long)) {j : Nat} (hj : j < n) (hn : n < 2 ^ 31) (hdg : decode cc pc = .ok (.laload, 1))
    (kk : W p l e R s m args below meth c H locs cells slots Q (F0 m (pc + 1) ls (.long (f j) :: rest))) : W p l e R s m args below meth c H locs cells slots Q (F0 m pc ls (.int (nI j) :: .ref a :: rest)) :=
  va_lald hexec hb hK hP q0 t0 ha ht (vp_in_nI hj hn) hdg (by rw [nI_clamp (Nat.lt_trans hj hn)]; exact kk)
theorem ry_iast (hexec : p.tables.exec = Jvm.exec) (hb : c.code = cc) (hK : va_K D cl tys s) (hP : va_P D cl ws H) (hD : va_D A ws) (hS : va_S A H0 H locs) (q0 t0 : Nat) {cA : ClassId} {n : Nat} {f : Nat → Int32} (ha : ws[q0]? = some (a, .inl (cA, n, .inl f))) (ht : tys[t0]? = some (cA, .int)) {j : Nat} {x : Int32} (hj : j < n) (hn : n < 2 ^ 31) (hdg : decode cc pc = .ok (.iastore, 1))
    (kk : ∀ (H1 : Heap) (locs1 : List Loc), va_P D cl (ws.set q0 (a, .inl (cA, n, .inl (upd f j x)))) H1 → va_D A (ws.set q0 (a, .inl (cA, n, .inl (upd f j x)))) → va_S A H0 H1 locs1 → W p l e R s m args below meth c H1 locs1 cells slots Q (F0 m (pc + 1) ls rest)) : W p l e R s m args below meth c H locs cells slots Q (F0 m pc ls (.int x :: .int (nI j) :: .ref a :: rest)) :=
  va_iast hexec hb hK hP hD hS q0 t0 ha ht (vp_in_nI hj hn) hdg (by rw [nI_clamp (Nat.lt_trans hj hn)]; exact kk)
theorem ry_zast (hexec : p.tables.exec = Jvm.exec) (hb : c.code = cc) (hK : va_K D cl tys s) (hP : va_P D cl ws H) (hD : va_D A ws) (hS : va_S A H0 H locs) (q0 t0 : Nat) {cA : ClassId} {n : Nat} {f : Nat → Int32} (ha : ws[q0]? = some (a, .inl (cA, n, .inl f))) (ht : tys[t0]? = some (cA, .boolean)) {j : Nat} {x : Int32} (hx : vp_nar .boolean x = x) (hj : j < n) (hn : n < 2 ^ 31) (hdg : decode cc pc = .ok (.bastore, 1))
    (kk : ∀ (H1 : Heap) (locs1 : List Loc), va_P D cl (ws.set q0 (a, .inl (cA, n, .inl (upd f j x)))) H1 → va_D A (ws.set q0 (a, .inl (cA, n, .inl (upd f j x)))) → va_S A H0 H1 locs1 → W p l e R s m args below meth c H1 locs1 cells slots Q (F0 m (pc + 1) ls rest)) : W p l e R s m args below meth c H locs cells slots Q (F0 m pc ls (.int x :: .int (nI j) :: .ref a :: rest)) :=
  va_zast hexec hb hK hP hD hS q0 t0 ha ht (vp_in_nI hj hn) hdg (by rw [nI_clamp (Nat.lt_trans hj hn), hx]; exact kk)
theorem ry_last (hexec : p.tables.exec = Jvm.exec) (hb : c.code = cc) (hK : va_K D cl tys s) (hP : va_P D cl ws H) (hD : va_D A ws) (hS : va_S A H0 H locs) (q0 t0 : Nat) {cA : ClassId} {n : Nat} {f : Nat → Int64} (ha : ws[q0]? = some (a, .inl (cA, n, .inr (.inl f)))) (ht : tys[t0]? = some (cA, .long)) {j : Nat} {x : Int64} (hj : j < n) (hn : n < 2 ^ 31) (hdg : decode cc pc = .ok (.lastore, 1))
    (kk : ∀ (H1 : Heap) (locs1 : List Loc), va_P D cl (ws.set q0 (a, .inl (cA, n, .inr (.inl (vp_updL f j x))))) H1 → va_D A (ws.set q0 (a, .inl (cA, n, .inr (.inl (vp_updL f j x))))) → va_S A H0 H1 locs1 → W p l e R s m args below meth c H1 locs1 cells slots Q (F0 m (pc + 1) ls rest)) : W p l e R s m args below meth c H locs cells slots Q (F0 m pc ls (.long x :: .int (nI j) :: .ref a :: rest)) :=
  va_last hexec hb hK hP hD hS q0 t0 ha ht (vp_in_nI hj hn) hdg (by rw [nI_clamp (Nat.lt_trans hj hn)]; exact kk)
/-- the ends of a method that only reads: an answer of the kind rv, the heap as it was -/
def ry_S {ρ : Type} (rv : ρ → Option Value) (post : ρ → Prop) : Array Value → State → Outcome → State → Prop := fun _ st o t => ∃ r : ρ, o = .returned (rv r) ∧ post r ∧ t.heap = st.heap
abbrev ry_i : Int32 → Option Value := fun r => some (.int r)
abbrev ry_l : Int64 → Option Value := fun r => some (.long r)
abbrev ry_v : Unit → Option Value := fun _ => none
/-- the world that a reader reads -/
abbrev ry_P (D : va_G) (cl : List vw_C) (wc : va_W) (tys : List (ClassId × FieldType)) (U : State) : Prop := va_P D cl wc U.heap ∧ va_K D cl tys U
theorem ry_blind {D : va_G} {cl : List vw_C} {wc : va_W} {tys : List (ClassId × FieldType)} {As : List Value} : FrameBlind (va_Pc As (ry_P D cl wc tys)) := fun a U g mk q => ⟨q.1, q.2.1, va_K.moved (u := U) (U := U.calling g mk a) (Vm.Alike.refl U.vm) q.2.2⟩
variable {ρ : Type} {rv : ρ → Option Value} {post : ρ → Prop} {y : MethodName} {bytes : ByteArray} {maxL nL n index : Nat} {ret : Option FieldType} {rm : Room} {own C : String} {As st0 : List Value} {wc : va_W} {b : Nat} {Qc : Array Value → State → Outcome → State → Prop}
theorem ry_call {args' : Array Value} (hr : va_Run p l e R s m args below meth c H locs cells slots 0 0 (F0 m pc ls st0) rest (ry_S rv post args') (fun _ => False))
    (kk : ∀ r : ρ, post r → W p l e R s m args below meth c H locs cells slots Q (F0 m (pc + 3) ls ((rv r).toList ++ rest))) : W p l e R s m args below meth c H locs cells slots Q (F0 m pc ls st0) := by
  intro T hT X
  obtain ⟨v, st₀, t, T', L, h0, X', hL, e1, e2, ⟨r, hv, hp, hh⟩, st⟩ := hr T hT X
  cases hv
  obtain ⟨t2, a1, b1⟩ := kk r hp T' (by rw [e1, hh, h0]) (Stand.forget X' (fun q h => (hL q h).elim))
  exact ⟨t2, st t2 a1, b1⟩
/-- a static method without a world -/
theorem ry_callS (S : CallFix p m c cc nL s args tb own) (hM : Met l y (Cond.code y bytes maxL ret :: tb) rm (va_Pc As (fun _ => True)) (ry_S rv post) 0 0 (fun _ => False)) (hG : GoodIn tb (va_wsS own index y (Cond.code y bytes maxL ret :: tb))) (hrc : rm.cells = 0) (hrs : rm.slots = 0)
    (hd : y.cls ≠ "java/lang/invoke/MethodHandle" ∧ y.cls ≠ "java/lang/invoke/VarHandle" ∧ (parseMethodDescriptor y.desc).map (fun d => d.parameters.length) = some n) (hR : rm.frames + 1 ≤ R.frames ∧ 8 + (maxL + 11) + rm.locals ≤ R.locals)
    (hn : As.length = n) (hsize : ls.size = nL) (hstack : st0 = As.reverse ++ rest) (hW : (rest.map fun v => v.category).sum ≤ 8) (hdg : decode cc pc = .ok (.invokestatic index, 3)) (hf : cells ≤ R.cells ∧ slots ≤ R.slots)
    (kk : ∀ r : ρ, post r → W p l e R s m args below meth c H locs cells slots Q (F0 m (pc + 3) ls ((rv r).toList ++ rest))) : W p l e R s m args below meth c H locs cells slots Q (F0 m pc ls st0) :=
  ry_call (va_runS S hM (va_cwS n S.2.2.2.2 hG rfl hrc hrs hd hR) ⟨fun a U g mk q => ⟨q.1, trivial⟩, fun U hU hW => ⟨rfl, trivial⟩⟩ rfl hn hsize hstack (lv_room hW) hdg hf) kk
/-- a method of an object, that reads the world wc -/
theorem ry_callV (S : CallFix p m c cc nL s args tb own) (hM : Met l y (Cond.code y bytes maxL ret :: tb) rm (va_Pc (.ref b :: As) (ry_P D cl wc tys)) (ry_S rv post) 0 0 (fun _ => False)) (hG : GoodIn tb (wsV own index C y (Cond.code y bytes maxL ret :: tb))) (hrc : rm.cells = 0) (hrs : rm.slots = 0)
    (hd : y.cls = C ∧ y.cls ≠ "java/lang/invoke/MethodHandle" ∧ y.cls ≠ "java/lang/invoke/VarHandle" ∧ (parseMethodDescriptor y.desc).map (fun d => d.parameters.length) = some n) (hR : rm.frames + 1 ≤ R.frames ∧ 8 + (maxL + 11) + rm.locals ≤ R.locals)
    (hP : va_P D cl wc H) (hK : va_K D cl tys s) {q : vw_C} {q0 ci : Nat} {fs : List Value} (hc : cl[ci]? = some q) (he : wc[q0]? = some (b, .inr (ci, fs))) (hC : q.1 = C)
    (hn : As.length = n) (hsize : ls.size = nL) (hstack : st0 = As.reverse ++ .ref b :: rest) (hW : (rest.map fun v => v.category).sum ≤ 8) (hdg : decode cc pc = .ok (.invokevirtual index, 3)) (hf : cells ≤ R.cells ∧ slots ≤ R.slots)
    (kk : ∀ r : ρ, post r → W p l e R s m args below meth c H locs cells slots Q (F0 m (pc + 3) ls ((rv r).toList ++ rest))) : W p l e R s m args below meth c H locs cells slots Q (F0 m pc ls st0) :=
  ry_call (va_runV S hM (cwV n S.2.2.2.2 hG rfl hrc hrs hd hR) ⟨ry_blind, by rw [← hC]; exact va_recv hK hP hc he, fun U hU hW => ⟨rfl, by rw [hU]; exact hP, va_K.moved hW.alike hK⟩⟩ rfl hn hsize hstack (lv_room hW) hdg hf) kk
end RY
/-- what a walk knows of its method -/
def cx (p : Program) (s : State) (m : MethodId) (args : Array Value) (meth : Method) (c : Code) (cc : ByteArray) (nL : Nat) (ret : Option FieldType) (own : String) : Prop :=
  p.tables.exec = Jvm.exec ∧ c.code = cc ∧ meth.sig.returnType = ret ∧ c.maxLocals = nL ∧ s.vm.findClass own = some m.cls ∧ (∀ w ∈ tb, w.before args s = true) ∧ meth.locks = false
theorem cx_of {p : Program} {l : Launch} {y : MethodName} {cw : Cond} {rm : Room} {cc : ByteArray} {maxL : Nat} {ret : Option FieldType} {e : Env} {s : State} {m : MethodId} {args : Array Value} {below : List Frame} {meth : Method} {c : Code} {s₁ : State}
    (B : BodyLoose p l y (headSpec (cw :: tb) rm) cc maxL ret e s m args below meth c s₁) (hml : c.maxLocals = maxL) {own : String} (ho : y.cls = own) : cx p s m args meth c cc maxL ret own :=
  ⟨B.exec, B.bytes, B.returns, hml, by rw [← ho]; exact findClass_of_methodNamed B.named, fun w h => atoms_spec (ws := cw :: tb) B.pre w (List.mem_cons_of_mem _ h), B.notSynchronized⟩
end
section
/-! ===== lN n to 2^64: shifts, and, or, masks, one bit ===== -/
theorem wb_tb (n : Nat) : (lN n).toBitVec = BitVec.ofNat 64 n := rfl
theorem wb_inj {a b : Int64} (h : a.toBitVec = b.toBitVec) : a = b := Int64.toBitVec_inj.mp h
theorem wb_tn {n : Nat} (h : n < 2 ^ 64) : (lN n).toBitVec.toNat = n := by rw [wb_tb, BitVec.toNat_ofNat, Nat.mod_eq_of_lt h]
theorem wb_of (x : Int64) : ∃ n, n < 2 ^ 64 ∧ x = lN n := ⟨x.toBitVec.toNat, x.toBitVec.isLt, wb_inj (by rw [wb_tb]; simp)⟩
theorem wb_of32 (x : Int32) : ∃ n, n < 2 ^ 32 ∧ x = nI n := ⟨x.toBitVec.toNat, x.toBitVec.isLt, Int32.toBitVec_inj.mp (by show _ = BitVec.ofNat 32 _; simp)⟩
theorem wb_c : ∀ k, k < 64 → ((nI k).toInt64 &&& 63) = lN k := by decide +kernel
theorem wb_cu : ∀ k, k < 64 → ((nI k).toInt64.toUInt64 &&& Int64.toUInt64 63) = UInt64.ofNat k := by decide +kernel
theorem wb_sm : ∀ k, k < 64 → (BitVec.ofNat 64 k).smod 64 = BitVec.ofNat 64 k := by decide +kernel
theorem wb_pw {a b : Nat} (h : a ≤ b) : 2 ^ b = 2 ^ a * 2 ^ (b - a) := by rw [← Nat.pow_add]; congr 1; omega
theorem wb_lt2 {a b : Nat} (h : a < b) : 2 ^ a < 2 ^ b := Nat.pow_lt_pow_right (by decide) h
theorem wb_mod (n : Nat) : lN n = lN (n % 2 ^ 64) := wb_inj (by rw [wb_tb, wb_tb]; apply BitVec.eq_of_toNat_eq; rw [BitVec.toNat_ofNat, BitVec.toNat_ofNat, Nat.mod_mod])
theorem wb_shr {n k : Nat} (hn : n < 2 ^ 64) (hk : k < 64) : ((lN n).toUInt64 >>> ((nI k).toInt64.toUInt64 &&& Int64.toUInt64 63)).toInt64 = lN (n / 2 ^ k) := by
  rw [wb_cu k hk]
  apply wb_inj
  apply BitVec.eq_of_toNat_eq
  show ((lN n).toUInt64 >>> UInt64.ofNat k).toNat = (BitVec.ofNat 64 _).toNat
  have h1 : (UInt64.ofNat k).toNat = k := by
    show (BitVec.ofNat 64 k).toNat = k
    rw [BitVec.toNat_ofNat, Nat.mod_eq_of_lt (by omega)]
  have h2 : (lN n).toUInt64.toNat = n := wb_tn hn
  rw [UInt64.toNat_shiftRight, h1, h2, Nat.mod_eq_of_lt hk, Nat.shiftRight_eq_div_pow, BitVec.toNat_ofNat, Nat.mod_eq_of_lt (Nat.lt_of_le_of_lt (Nat.div_le_self _ _) hn)]
theorem wb_shl (n : Nat) {k : Nat} (hk : k < 64) : lN n <<< ((nI k).toInt64 &&& 63) = lN (n * 2 ^ k) := by
  rw [wb_c k hk]
  apply wb_inj
  rw [Int64.toBitVec_shiftLeft, wb_tb, wb_tb, wb_tb, wb_sm k hk]
  apply BitVec.eq_of_toNat_eq
  rw [BitVec.shiftLeft_eq', BitVec.toNat_shiftLeft, BitVec.toNat_ofNat, BitVec.toNat_ofNat, BitVec.toNat_ofNat, Nat.mod_eq_of_lt (show k < 2 ^ 64 by omega), Nat.shiftLeft_eq, Nat.mul_mod, Nat.mod_mod, ← Nat.mul_mod]
theorem wb_and {a b : Nat} (ha : a < 2 ^ 64) (hb : b < 2 ^ 64) : lN a &&& lN b = lN (a &&& b) := by
  apply wb_inj
  rw [Int64.toBitVec_and, wb_tb, wb_tb, wb_tb]
  apply BitVec.eq_of_toNat_eq
  rw [BitVec.toNat_and, BitVec.toNat_ofNat, BitVec.toNat_ofNat, BitVec.toNat_ofNat, Nat.mod_eq_of_lt ha, Nat.mod_eq_of_lt hb, Nat.mod_eq_of_lt (Nat.and_lt_two_pow _ hb)]
theorem wb_or {a b : Nat} (ha : a < 2 ^ 64) (hb : b < 2 ^ 64) : lN a ||| lN b = lN (a ||| b) := by
  apply wb_inj
  rw [Int64.toBitVec_or, wb_tb, wb_tb, wb_tb]
  apply BitVec.eq_of_toNat_eq
  rw [BitVec.toNat_or, BitVec.toNat_ofNat, BitVec.toNat_ofNat, BitVec.toNat_ofNat, Nat.mod_eq_of_lt ha, Nat.mod_eq_of_lt hb, Nat.mod_eq_of_lt (Nat.or_lt_two_pow ha hb)]
theorem wb_mask {n k : Nat} (hn : n < 2 ^ 64) (hk : k < 64) : lN n &&& lN (2 ^ k - 1) = lN (n % 2 ^ k) := by
  rw [wb_and hn (by have := wb_lt2 hk; omega), Nat.and_two_pow_sub_one_eq_mod]
theorem wb_a1 {n : Nat} (hn : n < 2 ^ 64) : lN n &&& 1 = lN (n % 2) := wb_mask (k := 1) hn (by decide)
theorem wb_bit {n k : Nat} (hn : n < 2 ^ 64) (hk : k < 64) : ((lN n).toUInt64 >>> ((nI k).toInt64.toUInt64 &&& Int64.toUInt64 63)).toInt64 &&& 1 = lN (n / 2 ^ k % 2) := by
  rw [wb_shr hn hk, wb_a1 (Nat.lt_of_le_of_lt (Nat.div_le_self _ _) hn)]
theorem wb_xor {q k : Nat} (hk : k < 63) (h : 2 ^ k ≤ q) (h2 : q < 2 ^ (k + 1)) : lN q ^^^ lN (2 ^ k) = lN (q - 2 ^ k) := by
  obtain ⟨r, rfl⟩ : ∃ r, q = 2 ^ k + r := ⟨q - 2 ^ k, by omega⟩
  have hr : r < 2 ^ k := by rw [Nat.pow_succ] at h2; omega
  have hx : (2 ^ k + r) ^^^ 2 ^ k = r := by
    apply Nat.eq_of_testBit_eq
    intro i
    rw [Nat.testBit_xor, Nat.testBit_two_pow]
    rcases Nat.lt_trichotomy i k with h | h | h
    · rw [Nat.testBit_two_pow_add_gt h]
      simp [show ¬ k = i by omega]
    · subst h
      rw [Nat.testBit_two_pow_add_eq]
      simp
    · have a1 : 2 ^ (k + 1) ≤ 2 ^ i := Nat.pow_le_pow_right (by decide) h
      rw [Nat.testBit_lt_two_pow (show 2 ^ k + r < 2 ^ i by omega), Nat.testBit_lt_two_pow (show r < 2 ^ i by omega)]
      simp [show ¬ k = i by omega]
  have b1 := wb_lt2 (show k + 1 < 64 by omega)
  have b2 := wb_lt2 (show k < 64 by omega)
  apply wb_inj
  rw [Int64.toBitVec_xor, wb_tb, wb_tb, wb_tb]
  apply BitVec.eq_of_toNat_eq
  rw [BitVec.toNat_xor, BitVec.toNat_ofNat, BitVec.toNat_ofNat, BitVec.toNat_ofNat, Nat.mod_eq_of_lt (by omega : 2 ^ k + r < 2 ^ 64), Nat.mod_eq_of_lt b2, hx, Nat.add_sub_cancel_left, Nat.mod_eq_of_lt (by omega)]
/-! ===== lN: masks, 'or' of parts that don't overlap is a sum ===== -/
theorem u_tn {n : Nat} (h : n < 2 ^ 64) : (UInt64.ofNat n).toNat = n := Nat.mod_eq_of_lt h
theorem g_and {a b c : Nat} (ha : a < 2 ^ 64) (hb : b < 2 ^ 64) (hc : a &&& b = c) : lN a &&& lN b = lN c := by
  subst hc
  have h : UInt64.ofNat a &&& UInt64.ofNat b = UInt64.ofNat (a &&& b) := UInt64.toNat_inj.mp (by rw [UInt64.toNat_and, u_tn ha, u_tn hb, u_tn (Nat.and_lt_two_pow a hb)])
  have h2 := congrArg UInt64.toInt64 h
  exact h2
theorem g_and1 {a : Nat} (ha : a < 2 ^ 64) : lN a &&& 1 = lN (a % 2) := g_and (b := 1) ha (by decide) (Nat.and_two_pow_sub_one_eq_mod a 1)
theorem g_mask {a s p : Nat} (hp : 2 ^ s = p) (hs : s < 64) (ha : a < 2 ^ 64) : lN a &&& lN (p - 1) = lN (a % p) := by
  subst hp
  have := Nat.pow_lt_pow_right (show 1 < 2 by decide) hs
  exact g_and ha (by omega) (Nat.and_two_pow_sub_one_eq_mod a s)
theorem g_or {k p a b : Nat} (hp : 2 ^ k = p) (ha : a < p) (h : b * p + a < 2 ^ 64) : lN (b * p) ||| lN a = lN (b * p + a) := by
  subst hp
  have h1 : b * 2 ^ k ||| a = b * 2 ^ k + a := by rw [← Nat.shiftLeft_eq, Nat.shiftLeft_add_eq_or_of_lt ha]
  have h3 : UInt64.ofNat (b * 2 ^ k) ||| UInt64.ofNat a = UInt64.ofNat (b * 2 ^ k + a) := UInt64.toNat_inj.mp (by rw [UInt64.toNat_or, u_tn (by omega), u_tn (by omega), u_tn h, h1])
  have h2 := congrArg UInt64.toInt64 h3
  exact h2
theorem g_or' {k p a b : Nat} (hp : 2 ^ k = p) (ha : a < p) (h : a + b * p < 2 ^ 64) : lN a ||| lN (b * p) = lN (a + b * p) := by
  rw [Int64.or_comm, g_or hp ha (by omega), Nat.add_comm]
theorem g_ushr {a k p : Nat} {y : UInt64} (hy : y = UInt64.ofNat k) (hk : k < 64) (hp : 2 ^ k = p) (ha : a < 2 ^ 64) : ((lN a).toUInt64 >>> y).toInt64 = lN (a / p) := by
  subst hy hp
  have h : UInt64.ofNat a >>> UInt64.ofNat k = UInt64.ofNat (a / 2 ^ k) := UInt64.toNat_inj.mp (by rw [UInt64.toNat_shiftRight, u_tn ha, u_tn (by omega), u_tn (Nat.lt_of_le_of_lt (Nat.div_le_self _ _) ha), Nat.mod_eq_of_lt hk, Nat.shiftRight_eq_div_pow])
  have h2 := congrArg UInt64.toInt64 h
  exact h2
theorem g_shl {a k p : Nat} {y : Int64} (hy : y.toBitVec.smod 64 = BitVec.ofNat 64 k) (hk : k < 64) (hp : 2 ^ k = p) (ha : a < 2 ^ 64) : lN a <<< y = lN (a * p) := by
  subst hp
  apply Int64.toBitVec_inj.mp
  rw [Int64.toBitVec_shiftLeft, hy]
  apply BitVec.eq_of_toNat_eq
  have hb : (lN a).toBitVec.toNat = a := Nat.mod_eq_of_lt ha
  have hk' : (BitVec.ofNat 64 k).toNat = k := Nat.mod_eq_of_lt (by omega)
  have h : ((lN a).toBitVec <<< BitVec.ofNat 64 k).toNat = (a * 2 ^ k) % 2 ^ 64 := by simp only [BitVec.shiftLeft_eq', BitVec.toNat_shiftLeft, hb, hk', Nat.shiftLeft_eq]
  exact h
end
section
/-! The parts of a level in a region: six bytes in one long; a byte is 0 (NONE) or the number and 1. -/
def es (b : Nat → Nat) : Nat → Nat
  | 0 => 0
  | k + 1 => es b k + b k * 256 ^ k
def en (b : Nat → Nat) : Int64 := lN (es b 6)
def byt (b : Nat → Nat) : Prop := ∀ i, i < 6 → b i < 128
theorem es6 (b : Nat → Nat) : es b 6 = b 0 + b 1 * 256 + b 2 * 65536 + b 3 * 16777216 + b 4 * 4294967296 + b 5 * 1099511627776 := by simp [es]
theorem six_cases {i : Nat} (h : i < 6) : i = 0 ∨ i = 1 ∨ i = 2 ∨ i = 3 ∨ i = 4 ∨ i = 5 := by omega
theorem byt_all {b : Nat → Nat} (h : byt b) : b 0 < 128 ∧ b 1 < 128 ∧ b 2 < 128 ∧ b 3 < 128 ∧ b 4 < 128 ∧ b 5 < 128 := ⟨h 0 (by decide), h 1 (by decide), h 2 (by decide), h 3 (by decide), h 4 (by decide), h 5 (by decide)⟩
theorem es_lt {b : Nat → Nat} (h : byt b) : es b 6 < 2 ^ 47 := by
  obtain ⟨h0, h1, h2, h3, h4, h5⟩ := byt_all h
  rw [es6]; omega
theorem es_at {b : Nat → Nat} (h : byt b) {i : Nat} (hi : i < 6) : es b 6 / 2 ^ (i * 8) % 2 ^ 8 = b i := by
  obtain ⟨h0, h1, h2, h3, h4, h5⟩ := byt_all h
  rw [es6]
  rcases six_cases hi with rfl | rfl | rfl | rfl | rfl | rfl <;> (simp only [Nat.reduceMul, Nat.reducePow]; omega)
theorem en_inj {b c : Nat → Nat} (hb : byt b) (hc : byt c) (h : en b = en c) : ∀ i, i < 6 → b i = c i := by
  have h1 : es b 6 = es c 6 := (pk_lEQ (Nat.lt_trans (es_lt hb) (by decide)) (Nat.lt_trans (es_lt hc) (by decide))).mp h
  intro i hi
  rw [← es_at hb hi, ← es_at hc hi, h1]
theorem es_congr {b c : Nat → Nat} : ∀ k, (∀ i, i < k → b i = c i) → es b k = es c k
  | 0, _ => rfl
  | k + 1, h => by
    show es b k + b k * 256 ^ k = es c k + c k * 256 ^ k
    rw [es_congr k (fun i hi => h i (by omega)), h k (by omega)]
theorem en_congr {b c : Nat → Nat} (h : ∀ i, i < 6 → b i = c i) : en b = en c := by rw [en, en, es_congr 6 h]
theorem pa_en {b : Nat → Nat} (h : byt b) {i : Nat} (hi : i < 6) : (((en b).toUInt64 >>> ((nI i * 8 : Int32).toInt64.toUInt64 &&& Int64.toUInt64 63)).toInt64 &&& 255).toInt32 - 1 = nI (b i) - 1 := by
  have e1 : (nI i * 8 : Int32) = nI (i * 8) := pk_mul i 8
  have e2 : (255 : Int64) = lN (2 ^ 8 - 1) := by decide
  rw [e1, en, wb_shr (Nat.lt_trans (es_lt h) (by decide)) (by omega), e2, wb_mask (Nat.lt_of_le_of_lt (Nat.div_le_self _ _) (Nat.lt_trans (es_lt h) (by decide))) (by decide), lN_i, es_at h hi]
theorem ol_en {x i : Nat} (hx : x < 128) (hi : i < 6) : ((nI x - 1 + 1 : Int32).toInt64 <<< ((nI i * 8 : Int32).toInt64 &&& 63)) = lN (x * 256 ^ i) := by
  have e1 : (nI i * 8 : Int32) = nI (i * 8) := pk_mul i 8
  have e3 : (nI x - 1 + 1 : Int32) = nI x := by
    have h : ∀ x, x < 128 → (nI x - 1 + 1 : Int32) = nI x := by decide +kernel
    exact h x hx
  rw [e1, e3, nI_l (by omega), wb_shl x (by omega), Nat.pow_mul', show (2 : Nat) ^ 8 = 256 from rfl]
theorem or_es {b : Nat → Nat} (h : byt b) {k : Nat} (hk : k < 6) : lN (es b k) ||| lN (b k * 256 ^ k) = lN (es b (k + 1)) := by
  obtain ⟨h0, h1, h2, h3, h4, h5⟩ := byt_all h
  have e : (256 : Nat) ^ k = 2 ^ (8 * k) := by rw [Nat.pow_mul]
  refine g_or' (k := 8 * k) e.symm ?_ ?_ <;>
  rcases six_cases hk with rfl | rfl | rfl | rfl | rfl | rfl <;> (simp [es]; try omega)
/-- small numbers and 1 less, compared -/
theorem m1_toInt {x : Nat} (h : x < 1000000) : (nI x - 1).toInt = (x : Int) - 1 := by
  have := pk_sub_toInt (a := x) (b := 1) (by omega) (by decide)
  exact this
theorem m1_lt {x y : Nat} (hx : x < 1000000) (hy : y < 1000000) : (nI x - 1 : Int32) < nI y - 1 ↔ x < y := by
  rw [Int32.lt_iff_toInt_lt, m1_toInt hx, m1_toInt hy]; omega
theorem m1_eq {x y : Nat} (hx : x < 1000000) (hy : y < 1000000) : (nI x - 1 : Int32) = nI y - 1 ↔ x = y := by
  rw [← Int32.toInt_inj, m1_toInt hx, m1_toInt hy]; omega
theorem m1_none {x : Nat} (hx : x < 1000000) : (nI x - 1 : Int32) = -1 ↔ x = 0 := by
  rw [← Int32.toInt_inj, m1_toInt hx, show ((-1 : Int32)).toInt = -1 from by decide]; omega
theorem m1_max {x y : Nat} (hx : x < 1000000) (hy : y < 1000000) : (if (nI x - 1 : Int32) < nI y - 1 then nI y - 1 else nI x - 1) = nI (max x y) - 1 := by
  by_cases h : x < y
  · rw [if_pos ((m1_lt hx hy).mpr h), Nat.max_eq_right (by omega)]
  · rw [if_neg (fun z => h ((m1_lt hx hy).mp z)), Nat.max_eq_left (by omega)]
theorem m1_add (x : Nat) : (nI x - 1 + 1 : Int32) = nI x := by rw [Int32.sub_add_cancel]
end
section
/-! What the methods of Parts answer, in numbers. -/
theorem m1_max0 {y : Nat} (hy : y < 1000000) : (if (-1 : Int32) < nI y - 1 then nI y - 1 else -1) = nI (max 0 y) - 1 := m1_max (x := 0) (by omega) hy
theorem m1_p1 {x : Nat} (h : x < 1000000) : (nI x - 1 + 1 : Int32) = nI (x + 1) - 1 := by rw [m1_add, nI_pred]
/-- every number 1 more -/
def ra (b : Nat → Nat) : Nat → Nat := fun i => if b i = 0 then 0 else b i + 1
theorem ra_byt {b : Nat → Nat} (h : byt b) (h1 : ∀ i, i < 6 → b i < 127) : byt (ra b) := fun i hi => by
  have := h1 i hi
  unfold ra
  split <;> omega
theorem m1_zero {x : Nat} (hx : x < 1000000) : (nI x - 1 : Int32) = 0 ↔ x = 1 := by
  rw [← Int32.toInt_inj, m1_toInt hx, show ((0 : Int32)).toInt = 0 from by decide]; omega
theorem nI_max {x y : Nat} (hx : x < 1000000) (hy : y < 1000000) : (if nI x < nI y then nI y else nI x) = nI (max x y) := by
  by_cases h : x < y
  · rw [if_pos ((nI_ltI (by omega) (by omega)).mpr h), Nat.max_eq_right (by omega)]
  · rw [if_neg (fun z => h ((nI_ltI (by omega) (by omega)).mp z)), Nat.max_eq_left (by omega)]
theorem m1_maxn {x y : Nat} (hx : x < 1000000) (hy : y < 999999) : (if (nI x - 1 : Int32) < nI y then nI y else nI x - 1) = nI (max (x - 1) y) := by
  have h1 := m1_max (x := x) (y := y + 1) (by omega) (by omega)
  rw [nI_pred] at h1
  rw [h1]
  rcases Nat.lt_or_ge x (y + 1) with h | h
  · rw [Nat.max_eq_right (by omega), Nat.max_eq_right (by omega), nI_pred]
  · rw [Nat.max_eq_left (by omega), Nat.max_eq_left (by omega)]
    obtain ⟨z, rfl⟩ : ∃ z, x = z + 1 := ⟨x - 1, by omega⟩
    rw [nI_pred, Nat.add_sub_cancel]
/-- the value where all parameters of the region are 1 -/
def vo (b : Nat → Nat) : Nat := max (max (max (max (max (b 5 - 1) (b 0)) (b 1)) (b 2)) (b 3)) (b 4)
theorem vo_lt {b : Nat → Nat} (h : byt b) : vo b < 128 := by
  obtain ⟨h0, h1, h2, h3, h4, h5⟩ := byt_all h
  unfold vo; omega
theorem vo_ge (b : Nat → Nat) {x : Nat} (h : x < 5) : b x ≤ vo b := by
  rcases (show x = 0 ∨ x = 1 ∨ x = 2 ∨ x = 3 ∨ x = 4 by omega) with rfl | rfl | rfl | rfl | rfl <;> (unfold vo; omega)
/-- the greatest byte of a parameter in either -/
def gr (b1 b2 : Nat → Nat) : Nat := max (max (max (max (max 0 (max (b1 0) (b2 0))) (max (b1 1) (b2 1))) (max (b1 2) (b2 2))) (max (b1 3) (b2 3))) (max (b1 4) (b2 4))
/-- the parts of the greater of two -/
def jn (b1 b2 : Nat → Nat) : Nat → Nat := fun i => if i < 5 then max (b1 i) (b2 i) else if i = 5 ∧ (gr b1 b2 = 0 ∨ gr b1 b2 + 1 < max (b1 5) (b2 5)) then max (b1 5) (b2 5) else 0
theorem jn_lt {b1 b2 : Nat → Nat} {i : Nat} (h : i < 5) : jn b1 b2 i = max (b1 i) (b2 i) := by rw [jn, if_pos h]
theorem jn_5 {b1 b2 : Nat → Nat} (h : gr b1 b2 = 0 ∨ gr b1 b2 + 1 < max (b1 5) (b2 5)) : jn b1 b2 5 = max (b1 5) (b2 5) := by rw [jn, if_neg (by decide), if_pos ⟨rfl, h⟩]
theorem jn_50 {b1 b2 : Nat → Nat} (h : ¬ (gr b1 b2 = 0 ∨ gr b1 b2 + 1 < max (b1 5) (b2 5))) : jn b1 b2 5 = 0 := by rw [jn, if_neg (by decide), if_neg (fun z => h z.2)]
theorem jn_byt {b1 b2 : Nat → Nat} (h1 : byt b1) (h2 : byt b2) : byt (jn b1 b2) := fun i hi => by
  have a1 := h1 i hi
  have a2 := h2 i hi
  have c1 := h1 5 (by decide)
  have c2 := h2 5 (by decide)
  unfold jn
  split
  · omega
  · split <;> omega
theorem or_jn {b1 b2 : Nat → Nat} (h1 : byt b1) (h2 : byt b2) {k : Nat} (hk : k < 5) : lN (es (jn b1 b2) k) ||| lN (max (b1 k) (b2 k) * 256 ^ k) = lN (es (jn b1 b2) (k + 1)) := by
  rw [← or_es (jn_byt h1 h2) (by omega), jn_lt hk]
theorem or_jn5 {b1 b2 : Nat → Nat} (h1 : byt b1) (h2 : byt b2) (h : gr b1 b2 = 0 ∨ gr b1 b2 + 1 < max (b1 5) (b2 5)) : lN (es (jn b1 b2) 5) ||| lN (max (b1 5) (b2 5) * 256 ^ 5) = en (jn b1 b2) := by
  have e := or_es (jn_byt h1 h2) (k := 5) (by decide)
  rw [jn_5 h] at e
  exact e
theorem en_jn0 {b1 b2 : Nat → Nat} (h : ¬ gr b1 b2 = 0) (h' : ¬ gr b1 b2 + 1 < max (b1 5) (b2 5)) : lN (es (jn b1 b2) 5) = en (jn b1 b2) := by
  rw [en, show es (jn b1 b2) 6 = es (jn b1 b2) 5 + jn b1 b2 5 * 256 ^ 5 from rfl, jn_50 (fun z => z.elim h h'), Nat.zero_mul, Nat.add_zero]
theorem m1_le {x y : Nat} (hx : x < 1000000) (hy : y < 1000000) : (nI x - 1 : Int32) ≤ nI y - 1 ↔ x ≤ y := by
  rw [Int32.le_iff_toInt_le, m1_toInt hx, m1_toInt hy]; omega
theorem n_toInt {x : Nat} (h : x < 1000000) : (nI x).toInt = (x : Int) := nI_toInt (by omega)
theorem m1_le_n {x y : Nat} (hx : x < 1000000) (hy : y < 1000000) : (nI x - 1 : Int32) ≤ nI y ↔ x ≤ y + 1 := by
  rw [Int32.le_iff_toInt_le, m1_toInt hx, n_toInt hy]; omega
theorem n_lt_m1 {x y : Nat} (hx : x < 1000000) (hy : y < 1000000) : nI x < (nI y - 1 : Int32) ↔ x + 1 < y := by
  rw [Int32.lt_iff_toInt_lt, m1_toInt hy, n_toInt hx]; omega
/-- the last parameter whose part is higher in the first -/
def lh (b1 b2 : Nat → Nat) : Int32 := if b2 4 < b1 4 then 4 else if b2 3 < b1 3 then 3 else if b2 2 < b1 2 then 2 else if b2 1 < b1 1 then 1 else if b2 0 < b1 0 then 0 else -1
theorem lh_cases (b1 b2 : Nat → Nat) : lh b1 b2 = -1 ∨ ∃ X, X < 5 ∧ lh b1 b2 = nI X ∧ b2 X < b1 X ∧ ∀ y, X < y → y < 5 → b1 y ≤ b2 y := by
  unfold lh
  by_cases h4 : b2 4 < b1 4
  · exact Or.inr ⟨4, by decide, by rw [if_pos h4]; rfl, h4, fun y h1 h2 => by omega⟩
  rw [if_neg h4]
  by_cases h3 : b2 3 < b1 3
  · exact Or.inr ⟨3, by decide, by rw [if_pos h3]; rfl, h3, fun y h1 h2 => by rcases (show y = 4 by omega) with rfl; omega⟩
  rw [if_neg h3]
  by_cases h2 : b2 2 < b1 2
  · exact Or.inr ⟨2, by decide, by rw [if_pos h2]; rfl, h2, fun y h1 h2 => by rcases (show y = 3 ∨ y = 4 by omega) with rfl | rfl <;> omega⟩
  rw [if_neg h2]
  by_cases h1 : b2 1 < b1 1
  · exact Or.inr ⟨1, by decide, by rw [if_pos h1]; rfl, h1, fun y h1 h2 => by rcases (show y = 2 ∨ y = 3 ∨ y = 4 by omega) with rfl | rfl | rfl <;> omega⟩
  rw [if_neg h1]
  by_cases h0 : b2 0 < b1 0
  · exact Or.inr ⟨0, by decide, by rw [if_pos h0]; rfl, h0, fun y h1 h2 => by rcases (show y = 1 ∨ y = 2 ∨ y = 3 ∨ y = 4 by omega) with rfl | rfl | rfl | rfl <;> omega⟩
  rw [if_neg h0]
  exact Or.inl rfl
/-- 1 at each parameter of a region -/
def on (g : Nat) : Nat := g % 2 + g / 2 % 2 * 4096 + g / 4 % 2 * 16777216 + g / 8 % 2 * 68719476736 + g / 16 % 2 * 281474976710656
theorem on_lt (g : Nat) : on g < 2 ^ 49 := by unfold on; omega
/-- the first point above, in a region -/
def pab (b1 b2 : Nat → Nat) (g : Nat) : Int64 := if lh b1 b2 = -1 ∨ vo b2 < vo b1 then lN (on g) else lN (on g + (vo b2 + 1 - b1 (lh b1 b2).toNatClampNeg) * 4096 ^ (lh b1 b2).toNatClampNeg)
theorem pab_else {b1 b2 : Nat → Nat} {g X : Nat} (hg : g < 32) (h1 : byt b1) (h2 : byt b2) (hX : X < 5) (eX : lh b1 b2 = nI X) (hX1 : b2 X < b1 X) (hn : ¬ lh b1 b2 = -1) (hvv : vo b1 ≤ vo b2) (hX5 : b1 X ≤ vo b1) :
    lN (on g) + (((((nI (vo b2) - (nI (b1 X) - 1)) + 1) - 1 : Int32).toInt64 <<< ((nI X * 12 : Int32).toInt64 &&& 63))) = pab b1 b2 g := by
  have hv := vo_lt h2
  rw [pab, if_neg (fun z => z.elim hn (by omega)), eX, nI_clamp (by omega)]
  have e1 : (((nI (vo b2) - (nI (b1 X) - 1)) + 1) - 1 : Int32) = nI (vo b2 + 1 - b1 X) := by
    rw [Int32.add_sub_cancel, ← Int32.toInt_inj, n_toInt (by omega)]
    obtain ⟨z, hz⟩ : ∃ z, b1 X = z + 1 := ⟨b1 X - 1, by omega⟩
    rw [hz, nI_pred, pk_sub_toInt (by omega) (by omega)]
    omega
  have e2 : (nI X * 12 : Int32) = nI (X * 12) := pk_mul X 12
  rw [e1, e2, nI_l (by omega), wb_shl _ (by omega), Nat.pow_mul', show (2 : Nat) ^ 12 = 4096 from rfl, lN_add]
theorem gr_lt {b1 b2 : Nat → Nat} (h1 : byt b1) (h2 : byt b2) : gr b1 b2 < 128 := by
  obtain ⟨q0, q1, q2, q3, q4, q5⟩ := byt_all h1
  obtain ⟨u0, u1, u2, u3, u4, u5⟩ := byt_all h2
  unfold gr; omega
end
section
set_option maxHeartbeats 4000000 in
set_option maxRecDepth 100000 in
theorem c_Pt_at (l : Launch) (bb : Nat → Nat) (hbb : byt bb) (i : Nat) (hi : i < 6) : Met l y_Pt_at (cw_Pt_at :: tb) (rmH 1 0 0) (va_Pc [.long (en bb), .int (nI i)] (fun _ => True)) (ry_S ry_i (fun r => r = nI (bb i) - 1)) 0 0 (fun _ => False) := by
  refine Met.ofW (cc := b_Pt_at) (maxL := 3) (ret := (some .int)) (by decide +kernel) rfl ?_
  intro p e s m args below meth c s₁ B hml0 hv
  have C0 := cx_of B hml0 rfl
  obtain ⟨hx, hb, hr, hml, hown, htb, hlocks⟩ := id C0
  obtain ⟨rfl, -⟩ := hv
  have hl := lv_entry ([.long (en bb), .int (nI i)]) (n := 3) (Nat.le_of_ble_eq_true rfl)
  rw [lg_entry_eq]
  generalize (lg_sl ([.long (en bb), .int (nI i)]) ++ List.replicate (3 - (lg_sl ([.long (en bb), .int (nI i)])).length) Slot.unset).toArray = ls at hl ⊢
  have hl : lv_has ls 3 [(0, .long (en bb)), (2, .int (nI i))] := hl
  refine lv_lload_n hx hb d_Pt_at_0 rfl (lv_at hl 0 rfl) ?_
  refine lv_iload_n hx hb d_Pt_at_1 rfl (lv_at hl 1 rfl) ?_
  refine lv_bipush (v := 8) hx hb d_Pt_at_2 (by decide) ?_
  refine lv_imul hx hb d_Pt_at_4 ?_
  refine lv_lushr hx hb d_Pt_at_5 rfl ?_
  refine lv_ldc2 (v := 255) hx hb hown (htb _ mw_352) d_Pt_at_6 ?_
  refine lv_land hx hb d_Pt_at_9 ?_
  refine lv_l2i hx hb d_Pt_at_10 rfl ?_
  refine lv_iconst (v := 1) hx hb d_Pt_at_11 (by decide) ?_
  refine lv_isub hx hb d_Pt_at_12 ?_
  exact W.iret (v := ((((((en bb) : Int64).toUInt64 >>> ((((nI i) * 8) : Int32).toInt64.toUInt64 &&& Int64.toUInt64 63)).toInt64 &&& 255 : Int64) : Int64).toInt32 - 1)) hx hb hr (fun t ht hW => ⟨((((((en bb) : Int64).toUInt64 >>> ((((nI i) * 8) : Int32).toInt64.toUInt64 &&& Int64.toUInt64 63)).toInt64 &&& 255 : Int64) : Int64).toInt32 - 1), rfl, pa_en hbb hi, ht⟩) (fun _ h => by cases h) d_Pt_at_13

set_option maxHeartbeats 4000000 in
set_option maxRecDepth 100000 in
theorem c_Pt_only (l : Launch) (i x : Nat) (hi : i < 6) (hx_ : x < 128) : Met l y_Pt_only (cw_Pt_only :: tb) (rmH 1 0 0) (va_Pc [.int (nI i), .int (nI x - 1)] (fun _ => True)) (ry_S ry_l (fun r => r = lN (x * 256 ^ i))) 0 0 (fun _ => False) := by
  refine Met.ofW (cc := b_Pt_only) (maxL := 2) (ret := (some .long)) (by decide +kernel) rfl ?_
  intro p e s m args below meth c s₁ B hml0 hv
  have C0 := cx_of B hml0 rfl
  obtain ⟨hx, hb, hr, hml, hown, htb, hlocks⟩ := id C0
  obtain ⟨rfl, -⟩ := hv
  have hl := lv_entry ([.int (nI i), .int (nI x - 1)]) (n := 2) (Nat.le_of_ble_eq_true rfl)
  rw [lg_entry_eq]
  generalize (lg_sl ([.int (nI i), .int (nI x - 1)]) ++ List.replicate (2 - (lg_sl ([.int (nI i), .int (nI x - 1)])).length) Slot.unset).toArray = ls at hl ⊢
  have hl : lv_has ls 2 [(0, .int (nI i)), (1, .int (nI x - 1))] := hl
  refine lv_iload_n hx hb d_Pt_only_0 rfl (lv_at hl 1 rfl) ?_
  refine lv_iconst (v := 1) hx hb d_Pt_only_1 (by decide) ?_
  refine lv_iadd hx hb d_Pt_only_2 ?_
  refine lv_i2l hx hb d_Pt_only_3 rfl ?_
  refine lv_iload_n hx hb d_Pt_only_4 rfl (lv_at hl 0 rfl) ?_
  refine lv_bipush (v := 8) hx hb d_Pt_only_5 (by decide) ?_
  refine lv_imul hx hb d_Pt_only_7 ?_
  refine lv_lshl hx hb d_Pt_only_8 rfl ?_
  exact W.lret (v := ((((nI x - 1) + 1) : Int32).toInt64 <<< ((((nI i) * 8) : Int32).toInt64 &&& 63))) hx hb hr (fun t ht hW => ⟨((((nI x - 1) + 1) : Int32).toInt64 <<< ((((nI i) * 8) : Int32).toInt64 &&& 63)), rfl, ol_en hx_ hi, ht⟩) (fun _ h => by cases h) d_Pt_only_9

set_option maxHeartbeats 4000000 in
set_option maxRecDepth 100000 in
theorem lp_Pt_raised {p : Program} {l : Launch} {e : Env} {s : State} {m : MethodId} {args : Array Value} {below : List Frame} {meth : Method} {c : Code} {H : Heap} {locs : List Loc} {Q : State → Prop} (C0 : cx p s m args meth c b_Pt_raised 6 (some .long) R_Pt)  (bb : Nat → Nat) (hbb : byt bb) (hb1 : ∀ i, i < 6 → bb i < 127) :
    ∀ (n : Nat) (k : Nat), 7 ≤ k + n ∧ k ≤ 6 → ∀ (ls : Array Slot), lv_has ls 6 [(0, .long (en bb)), (2, .long (lN (es (ra bb) k))), (4, .int (nI k))] → (∀  (ls : Array Slot),  lv_has ls 6 [(0, .long (en bb)), (2, .long (en (ra bb)))] → W p l e (rmH 2 0 0) s m args below meth c H locs 0 0 Q (F0 m 43 ls [])) → W p l e (rmH 2 0 0) s m args below meth c H locs 0 0 Q (F0 m 5 ls []) := by
  obtain ⟨hx, hb, hr, hml, hown, htb, hlocks⟩ := id C0
  intro n
  induction n with
  | zero =>
    intro k hk; omega
  | succ n ih =>
    intro k hk ls hl K
    refine lv_iload hx hb d_Pt_raised_5 (lv_at hl 2 rfl) ?_
    refine lv_iconst (v := 5) hx hb d_Pt_raised_7 (by decide) ?_
    refine lv_icmp_gt (tgt := 43) hx hb d_Pt_raised_8 (by decide) (fun c_8 => ?_) (fun c_8 => ?_)
    · have e6 : k = 6 := by have := (nI_ltI (a := 5) (b := k) (by decide) (by omega)).mp c_8; omega
      subst e6
      exact K ls (lv_sub hl [0, 1] rfl)
    · have hk5 : ¬ 5 < k := fun z => c_8 ((nI_ltI (a := 5) (b := k) (by decide) (by omega)).mpr z)
      have hbk := hb1 k (by omega)
      refine lv_lload_n hx hb d_Pt_raised_11 rfl (lv_at hl 0 rfl) ?_
      refine lv_iload hx hb d_Pt_raised_12 (lv_at hl 2 rfl) ?_
      refine ry_callS (n := 2) (As := [.long (en bb), .int (nI k)]) (rest := []) ⟨hx, hb, hml, hown, htb⟩ (c_Pt_at l bb hbb k (by omega)) (gS mw_349 mw_350 mw_12 mc_Pt_at) rfl rfl (by decide +kernel) ⟨Nat.le_of_ble_eq_true rfl, Nat.le_of_ble_eq_true rfl⟩ rfl hl.1 rfl (Nat.le_of_ble_eq_true rfl) d_Pt_raised_14 ⟨Nat.zero_le _, Nat.zero_le _⟩ (fun r_1 hr_1 => ?_)
      subst hr_1
      refine W.eq (g2 := F0 m 17 ls [.int (nI (bb k) - 1)]) rfl ?_
      refine lv_istore (lv' := [(5, .int (nI (bb k) - 1)), (0, .long (en bb)), (2, .long (lN (es (ra bb) k))), (4, .int (nI k))]) hx hb d_Pt_raised_17 hl (by decide) rfl (fun ls hl => ?_)
      refine lv_iload hx hb d_Pt_raised_19 (lv_at hl 0 rfl) ?_
      refine lv_iconst (v := (-1)) hx hb d_Pt_raised_21 (by decide) ?_
      refine lv_icmp_eq (tgt := 37) hx hb d_Pt_raised_22 (by decide) (fun c_22 => ?_) (fun c_22 => ?_)
      · have h0 : bb k = 0 := (m1_none (by omega)).mp c_22
        have e9 : es (ra bb) (k + 1) = es (ra bb) k := by show es (ra bb) k + ra bb k * 256 ^ k = _; rw [ra, if_pos h0]; omega
        rw [← e9] at hl
        refine lv_iinc (v := (nI (k + 1))) (lv' := [(4, .int (nI (k + 1))), (5, .int (nI (bb k) - 1)), (0, .long (en bb)), (2, .long (lN (es (ra bb) (k + 1))))]) hx hb d_Pt_raised_37 hl (k := 3) rfl (nI_1 _) (by decide) rfl (fun ls hl => ?_)
        refine lv_goto (tgt := 5) hx hb d_Pt_raised_40 (by decide) ?_
        exact ih (k + 1) (by omega) ls (lv_sub hl [2, 3, 0] rfl) K
      · have h0 : ¬ bb k = 0 := fun z => c_22 ((m1_none (by omega)).mpr z)
        refine lv_lload_n hx hb d_Pt_raised_25 rfl (lv_at hl 2 rfl) ?_
        refine lv_iload hx hb d_Pt_raised_26 (lv_at hl 3 rfl) ?_
        refine lv_iload hx hb d_Pt_raised_28 (lv_at hl 0 rfl) ?_
        refine lv_iconst (v := 1) hx hb d_Pt_raised_30 (by decide) ?_
        refine lv_iadd hx hb d_Pt_raised_31 ?_
        rw [m1_p1 (by omega)]
        refine ry_callS (n := 2) (As := [.int (nI k), .int (nI (bb k + 1) - 1)]) (rest := [.long (lN (es (ra bb) k))]) ⟨hx, hb, hml, hown, htb⟩ (c_Pt_only l k (bb k + 1) (by omega) (by omega)) (gS mw_353 mw_340 mw_12 mc_Pt_only) rfl rfl (by decide +kernel) ⟨Nat.le_of_ble_eq_true rfl, Nat.le_of_ble_eq_true rfl⟩ rfl hl.1 rfl (Nat.le_of_ble_eq_true rfl) d_Pt_raised_32 ⟨Nat.zero_le _, Nat.zero_le _⟩ (fun r_2 hr_2 => ?_)
        subst hr_2
        refine W.eq (g2 := F0 m 35 ls [.long (lN ((bb k + 1) * 256 ^ k)), .long (lN (es (ra bb) k))]) rfl ?_
        refine lv_lor hx hb d_Pt_raised_35 ?_
        refine lv_topl (fun x_3 ex_3 => ?_)
        rw [show (lN (es (ra bb) k) ||| lN ((bb k + 1) * 256 ^ k)) = lN (es (ra bb) (k + 1)) from by rw [← or_es (ra_byt hbb hb1) (by omega), ra, if_neg h0]] at ex_3
        subst ex_3
        refine lv_lstore_n (lv' := [(2, .long (lN (es (ra bb) (k + 1)))), (5, .int (nI (bb k) - 1)), (0, .long (en bb)), (4, .int (nI k))]) hx hb d_Pt_raised_36 rfl hl (by decide) rfl (fun ls hl => ?_)
        refine lv_iinc (v := (nI (k + 1))) (lv' := [(4, .int (nI (k + 1))), (2, .long (lN (es (ra bb) (k + 1)))), (5, .int (nI (bb k) - 1)), (0, .long (en bb))]) hx hb d_Pt_raised_37 hl (k := 3) rfl (nI_1 _) (by decide) rfl (fun ls hl => ?_)
        refine lv_goto (tgt := 5) hx hb d_Pt_raised_40 (by decide) ?_
        exact ih (k + 1) (by omega) ls (lv_sub hl [3, 1, 0] rfl) K

set_option maxHeartbeats 4000000 in
set_option maxRecDepth 100000 in
theorem c_Pt_raised (l : Launch) (bb : Nat → Nat) (hbb : byt bb) (hb1 : ∀ i, i < 6 → bb i < 127) : Met l y_Pt_raised (cw_Pt_raised :: tb) (rmH 2 0 0) (va_Pc [.long (en bb)] (fun _ => True)) (ry_S ry_l (fun r => r = en (ra bb))) 0 0 (fun _ => False) := by
  refine Met.ofW (cc := b_Pt_raised) (maxL := 6) (ret := (some .long)) (by decide +kernel) rfl ?_
  intro p e s m args below meth c s₁ B hml0 hv
  have C0 := cx_of B hml0 rfl
  obtain ⟨hx, hb, hr, hml, hown, htb, hlocks⟩ := id C0
  obtain ⟨rfl, -⟩ := hv
  have hl := lv_entry ([.long (en bb)]) (n := 6) (Nat.le_of_ble_eq_true rfl)
  rw [lg_entry_eq]
  generalize (lg_sl ([.long (en bb)]) ++ List.replicate (6 - (lg_sl ([.long (en bb)])).length) Slot.unset).toArray = ls at hl ⊢
  have hl : lv_has ls 6 [(0, .long (en bb))] := hl
  refine lv_lconst (v := 0) hx hb d_Pt_raised_0 (by decide) ?_
  refine lv_lstore_n (lv' := [(2, .long (0 : Int64)), (0, .long (en bb))]) hx hb d_Pt_raised_1 rfl hl (by decide) rfl (fun ls hl => ?_)
  refine lv_iconst (v := 0) hx hb d_Pt_raised_2 (by decide) ?_
  refine lv_istore (lv' := [(4, .int 0), (2, .long (0 : Int64)), (0, .long (en bb))]) hx hb d_Pt_raised_3 hl (by decide) rfl (fun ls hl => ?_)
  refine lp_Pt_raised C0 bb hbb hb1 7 0 (by omega) ls (lv_sub hl [2, 1, 0] rfl) (fun ls hl => ?_)
  refine lv_lload_n hx hb d_Pt_raised_43 rfl (lv_at hl 1 rfl) ?_
  exact W.lret (v := (en (ra bb))) hx hb hr (fun t ht hW => ⟨(en (ra bb)), rfl, rfl, ht⟩) (fun _ h => by cases h) d_Pt_raised_44

set_option maxHeartbeats 4000000 in
set_option maxRecDepth 100000 in
theorem c_Pt_vanish (l : Launch) (bb : Nat → Nat) (hbb : byt bb) : Met l y_Pt_vanish (cw_Pt_vanish :: tb) (rmH 2 0 0) (va_Pc [.long (en bb)] (fun _ => True)) (ry_S ry_i (fun r => r = if bb 5 = 1 then 1 else 0)) 0 0 (fun _ => False) := by
  refine Met.ofW (cc := b_Pt_vanish) (maxL := 2) (ret := (some .boolean)) (by decide +kernel) rfl ?_
  intro p e s m args below meth c s₁ B hml0 hv
  have C0 := cx_of B hml0 rfl
  obtain ⟨hx, hb, hr, hml, hown, htb, hlocks⟩ := id C0
  obtain ⟨rfl, -⟩ := hv
  have hl := lv_entry ([.long (en bb)]) (n := 2) (Nat.le_of_ble_eq_true rfl)
  rw [lg_entry_eq]
  generalize (lg_sl ([.long (en bb)]) ++ List.replicate (2 - (lg_sl ([.long (en bb)])).length) Slot.unset).toArray = ls at hl ⊢
  have hl : lv_has ls 2 [(0, .long (en bb))] := hl
  obtain ⟨q0, q1, q2, q3, q4, q5⟩ := byt_all hbb
  refine lv_lload_n hx hb d_Pt_vanish_0 rfl (lv_at hl 0 rfl) ?_
  refine lv_iconst (v := 5) hx hb d_Pt_vanish_1 (by decide) ?_
  refine ry_callS (n := 2) (As := [.long (en bb), .int 5]) (rest := []) ⟨hx, hb, hml, hown, htb⟩ (c_Pt_at l bb hbb 5 (by decide)) (gS mw_349 mw_350 mw_12 mc_Pt_at) rfl rfl (by decide +kernel) ⟨Nat.le_of_ble_eq_true rfl, Nat.le_of_ble_eq_true rfl⟩ rfl hl.1 rfl (Nat.le_of_ble_eq_true rfl) d_Pt_vanish_2 ⟨Nat.zero_le _, Nat.zero_le _⟩ (fun r_1 hr_1 => ?_)
  subst hr_1
  refine W.eq (g2 := F0 m 5 ls [.int (nI (bb 5) - 1)]) rfl ?_
  refine lv_if_ne (tgt := 12) hx hb d_Pt_vanish_5 (by decide) (fun c_5 => ?_) (fun c_5 => ?_)
  · refine lv_iconst (v := 0) hx hb d_Pt_vanish_12 (by decide) ?_
    exact W.zret (v := 0) hx hb hr rfl (fun t ht hW => ⟨0, rfl, (by rw [if_neg (fun z => c_5 ((m1_zero (by omega)).mpr z))]), ht⟩) (fun _ h => by cases h) d_Pt_vanish_13
  · refine lv_iconst (v := 1) hx hb d_Pt_vanish_8 (by decide) ?_
    refine lv_goto (tgt := 13) hx hb d_Pt_vanish_9 (by decide) ?_
    exact W.zret (v := 1) hx hb hr rfl (fun t ht hW => ⟨1, rfl, (by rw [if_pos ((m1_zero (by omega)).mp c_5)]), ht⟩) (fun _ h => by cases h) d_Pt_vanish_13

set_option maxHeartbeats 4000000 in
set_option maxRecDepth 100000 in
theorem c_Pt_valueAtOnes (l : Launch) (bb : Nat → Nat) (hbb : byt bb) : Met l y_Pt_valueAtOnes (cw_Pt_valueAtOnes :: tb) (rmH 2 0 0) (va_Pc [.long (en bb)] (fun _ => True)) (ry_S ry_i (fun r => r = nI (vo bb))) 0 0 (fun _ => False) := by
  refine Met.ofW (cc := b_Pt_valueAtOnes) (maxL := 4) (ret := (some .int)) (by decide +kernel) rfl ?_
  intro p e s m args below meth c s₁ B hml0 hv
  have C0 := cx_of B hml0 rfl
  obtain ⟨hx, hb, hr, hml, hown, htb, hlocks⟩ := id C0
  obtain ⟨rfl, -⟩ := hv
  have hl := lv_entry ([.long (en bb)]) (n := 4) (Nat.le_of_ble_eq_true rfl)
  rw [lg_entry_eq]
  generalize (lg_sl ([.long (en bb)]) ++ List.replicate (4 - (lg_sl ([.long (en bb)])).length) Slot.unset).toArray = ls at hl ⊢
  have hl : lv_has ls 4 [(0, .long (en bb))] := hl
  obtain ⟨q0, q1, q2, q3, q4, q5⟩ := byt_all hbb
  refine lv_lload_n hx hb d_Pt_valueAtOnes_0 rfl (lv_at hl 0 rfl) ?_
  refine lv_iconst (v := 5) hx hb d_Pt_valueAtOnes_1 (by decide) ?_
  refine ry_callS (n := 2) (As := [.long (en bb), .int 5]) (rest := []) ⟨hx, hb, hml, hown, htb⟩ (c_Pt_at l bb hbb 5 (by decide)) (gS mw_349 mw_350 mw_12 mc_Pt_at) rfl rfl (by decide +kernel) ⟨Nat.le_of_ble_eq_true rfl, Nat.le_of_ble_eq_true rfl⟩ rfl hl.1 rfl (Nat.le_of_ble_eq_true rfl) d_Pt_valueAtOnes_2 ⟨Nat.zero_le _, Nat.zero_le _⟩ (fun r_1 hr_1 => ?_)
  subst hr_1
  refine W.eq (g2 := F0 m 5 ls [.int (nI (bb 5) - 1)]) rfl ?_
  refine lv_istore_n (lv' := [(2, .int (nI (bb 5) - 1)), (0, .long (en bb))]) hx hb d_Pt_valueAtOnes_5 rfl hl (by decide) rfl (fun ls hl => ?_)
  refine lv_iconst (v := 0) hx hb d_Pt_valueAtOnes_6 (by decide) ?_
  refine lv_istore_n (lv' := [(3, .int 0), (2, .int (nI (bb 5) - 1)), (0, .long (en bb))]) hx hb d_Pt_valueAtOnes_7 rfl hl (by decide) rfl (fun ls hl => ?_)
  refine lv_iload_n hx hb d_Pt_valueAtOnes_8 rfl (lv_at hl 0 rfl) ?_
  refine lv_iconst (v := 5) hx hb d_Pt_valueAtOnes_9 (by decide) ?_
  refine lv_icmp_ge (tgt := 31) hx hb d_Pt_valueAtOnes_10 (by decide) (fun c_10 => ?_) (fun c_10 => ?_)
  · exact absurd c_10 (by decide)
  · refine lv_iload_n hx hb d_Pt_valueAtOnes_13 rfl (lv_at hl 1 rfl) ?_
    refine lv_lload_n hx hb d_Pt_valueAtOnes_14 rfl (lv_at hl 2 rfl) ?_
    refine lv_iload_n hx hb d_Pt_valueAtOnes_15 rfl (lv_at hl 0 rfl) ?_
    refine ry_callS (n := 2) (As := [.long (en bb), .int 0]) (rest := [.int (nI (bb 5) - 1)]) ⟨hx, hb, hml, hown, htb⟩ (c_Pt_at l bb hbb 0 (by decide)) (gS mw_349 mw_350 mw_12 mc_Pt_at) rfl rfl (by decide +kernel) ⟨Nat.le_of_ble_eq_true rfl, Nat.le_of_ble_eq_true rfl⟩ rfl hl.1 rfl (Nat.le_of_ble_eq_true rfl) d_Pt_valueAtOnes_16 ⟨Nat.zero_le _, Nat.zero_le _⟩ (fun r_2 hr_2 => ?_)
    subst hr_2
    refine W.eq (g2 := F0 m 19 ls [.int (nI (bb 0) - 1), .int (nI (bb 5) - 1)]) rfl ?_
    refine lv_iconst (v := 1) hx hb d_Pt_valueAtOnes_19 (by decide) ?_
    refine lv_iadd hx hb d_Pt_valueAtOnes_20 ?_
    rw [m1_add]
    refine va_mmax hx hb (by rw [hml]; exact hl.1.symm) hown (htb _ mw_357) (htb _ mw_145) (htb _ mw_11) (htb _ mc_max) (Nat.le_of_ble_eq_true rfl) (Nat.le_of_ble_eq_true rfl) (Nat.zero_le _) (Nat.zero_le _) d_Pt_valueAtOnes_21 ?_
    refine lv_topi (fun x_3 ex_3 => ?_)
    rw [m1_maxn (by omega) (by omega)] at ex_3
    subst ex_3
    refine lv_istore_n (lv' := [(2, .int (nI (max (bb 5 - 1) (bb 0)))), (3, .int 0), (0, .long (en bb))]) hx hb d_Pt_valueAtOnes_24 rfl hl (by decide) rfl (fun ls hl => ?_)
    refine lv_iinc (v := 1) (lv' := [(3, .int 1), (2, .int (nI (max (bb 5 - 1) (bb 0)))), (0, .long (en bb))]) hx hb d_Pt_valueAtOnes_25 hl (k := 1) rfl (by first | rfl | decide) (by decide) rfl (fun ls hl => ?_)
    refine lv_goto (tgt := 8) hx hb d_Pt_valueAtOnes_28 (by decide) ?_
    refine lv_iload_n hx hb d_Pt_valueAtOnes_8 rfl (lv_at hl 0 rfl) ?_
    refine lv_iconst (v := 5) hx hb d_Pt_valueAtOnes_9 (by decide) ?_
    refine lv_icmp_ge (tgt := 31) hx hb d_Pt_valueAtOnes_10 (by decide) (fun c_10_1 => ?_) (fun c_10_1 => ?_)
    · exact absurd c_10_1 (by decide)
    · refine lv_iload_n hx hb d_Pt_valueAtOnes_13 rfl (lv_at hl 1 rfl) ?_
      refine lv_lload_n hx hb d_Pt_valueAtOnes_14 rfl (lv_at hl 2 rfl) ?_
      refine lv_iload_n hx hb d_Pt_valueAtOnes_15 rfl (lv_at hl 0 rfl) ?_
      refine ry_callS (n := 2) (As := [.long (en bb), .int 1]) (rest := [.int (nI (max (bb 5 - 1) (bb 0)))]) ⟨hx, hb, hml, hown, htb⟩ (c_Pt_at l bb hbb 1 (by decide)) (gS mw_349 mw_350 mw_12 mc_Pt_at) rfl rfl (by decide +kernel) ⟨Nat.le_of_ble_eq_true rfl, Nat.le_of_ble_eq_true rfl⟩ rfl hl.1 rfl (Nat.le_of_ble_eq_true rfl) d_Pt_valueAtOnes_16 ⟨Nat.zero_le _, Nat.zero_le _⟩ (fun r_4 hr_4 => ?_)
      subst hr_4
      refine W.eq (g2 := F0 m 19 ls [.int (nI (bb 1) - 1), .int (nI (max (bb 5 - 1) (bb 0)))]) rfl ?_
      refine lv_iconst (v := 1) hx hb d_Pt_valueAtOnes_19 (by decide) ?_
      refine lv_iadd hx hb d_Pt_valueAtOnes_20 ?_
      rw [m1_add]
      refine va_mmax hx hb (by rw [hml]; exact hl.1.symm) hown (htb _ mw_357) (htb _ mw_145) (htb _ mw_11) (htb _ mc_max) (Nat.le_of_ble_eq_true rfl) (Nat.le_of_ble_eq_true rfl) (Nat.zero_le _) (Nat.zero_le _) d_Pt_valueAtOnes_21 ?_
      refine lv_topi (fun x_5 ex_5 => ?_)
      rw [nI_max (by omega) (by omega)] at ex_5
      subst ex_5
      refine lv_istore_n (lv' := [(2, .int (nI (max (max (bb 5 - 1) (bb 0)) (bb 1)))), (3, .int 1), (0, .long (en bb))]) hx hb d_Pt_valueAtOnes_24 rfl hl (by decide) rfl (fun ls hl => ?_)
      refine lv_iinc (v := 2) (lv' := [(3, .int 2), (2, .int (nI (max (max (bb 5 - 1) (bb 0)) (bb 1)))), (0, .long (en bb))]) hx hb d_Pt_valueAtOnes_25 hl (k := 1) rfl (by first | rfl | decide) (by decide) rfl (fun ls hl => ?_)
      refine lv_goto (tgt := 8) hx hb d_Pt_valueAtOnes_28 (by decide) ?_
      refine lv_iload_n hx hb d_Pt_valueAtOnes_8 rfl (lv_at hl 0 rfl) ?_
      refine lv_iconst (v := 5) hx hb d_Pt_valueAtOnes_9 (by decide) ?_
      refine lv_icmp_ge (tgt := 31) hx hb d_Pt_valueAtOnes_10 (by decide) (fun c_10_2 => ?_) (fun c_10_2 => ?_)
      · exact absurd c_10_2 (by decide)
      · refine lv_iload_n hx hb d_Pt_valueAtOnes_13 rfl (lv_at hl 1 rfl) ?_
        refine lv_lload_n hx hb d_Pt_valueAtOnes_14 rfl (lv_at hl 2 rfl) ?_
        refine lv_iload_n hx hb d_Pt_valueAtOnes_15 rfl (lv_at hl 0 rfl) ?_
        refine ry_callS (n := 2) (As := [.long (en bb), .int 2]) (rest := [.int (nI (max (max (bb 5 - 1) (bb 0)) (bb 1)))]) ⟨hx, hb, hml, hown, htb⟩ (c_Pt_at l bb hbb 2 (by decide)) (gS mw_349 mw_350 mw_12 mc_Pt_at) rfl rfl (by decide +kernel) ⟨Nat.le_of_ble_eq_true rfl, Nat.le_of_ble_eq_true rfl⟩ rfl hl.1 rfl (Nat.le_of_ble_eq_true rfl) d_Pt_valueAtOnes_16 ⟨Nat.zero_le _, Nat.zero_le _⟩ (fun r_6 hr_6 => ?_)
        subst hr_6
        refine W.eq (g2 := F0 m 19 ls [.int (nI (bb 2) - 1), .int (nI (max (max (bb 5 - 1) (bb 0)) (bb 1)))]) rfl ?_
        refine lv_iconst (v := 1) hx hb d_Pt_valueAtOnes_19 (by decide) ?_
        refine lv_iadd hx hb d_Pt_valueAtOnes_20 ?_
        rw [m1_add]
        refine va_mmax hx hb (by rw [hml]; exact hl.1.symm) hown (htb _ mw_357) (htb _ mw_145) (htb _ mw_11) (htb _ mc_max) (Nat.le_of_ble_eq_true rfl) (Nat.le_of_ble_eq_true rfl) (Nat.zero_le _) (Nat.zero_le _) d_Pt_valueAtOnes_21 ?_
        refine lv_topi (fun x_7 ex_7 => ?_)
        rw [nI_max (by omega) (by omega)] at ex_7
        subst ex_7
        refine lv_istore_n (lv' := [(2, .int (nI (max (max (max (bb 5 - 1) (bb 0)) (bb 1)) (bb 2)))), (3, .int 2), (0, .long (en bb))]) hx hb d_Pt_valueAtOnes_24 rfl hl (by decide) rfl (fun ls hl => ?_)
        refine lv_iinc (v := 3) (lv' := [(3, .int 3), (2, .int (nI (max (max (max (bb 5 - 1) (bb 0)) (bb 1)) (bb 2)))), (0, .long (en bb))]) hx hb d_Pt_valueAtOnes_25 hl (k := 1) rfl (by first | rfl | decide) (by decide) rfl (fun ls hl => ?_)
        refine lv_goto (tgt := 8) hx hb d_Pt_valueAtOnes_28 (by decide) ?_
        refine lv_iload_n hx hb d_Pt_valueAtOnes_8 rfl (lv_at hl 0 rfl) ?_
        refine lv_iconst (v := 5) hx hb d_Pt_valueAtOnes_9 (by decide) ?_
        refine lv_icmp_ge (tgt := 31) hx hb d_Pt_valueAtOnes_10 (by decide) (fun c_10_3 => ?_) (fun c_10_3 => ?_)
        · exact absurd c_10_3 (by decide)
        · refine lv_iload_n hx hb d_Pt_valueAtOnes_13 rfl (lv_at hl 1 rfl) ?_
          refine lv_lload_n hx hb d_Pt_valueAtOnes_14 rfl (lv_at hl 2 rfl) ?_
          refine lv_iload_n hx hb d_Pt_valueAtOnes_15 rfl (lv_at hl 0 rfl) ?_
          refine ry_callS (n := 2) (As := [.long (en bb), .int 3]) (rest := [.int (nI (max (max (max (bb 5 - 1) (bb 0)) (bb 1)) (bb 2)))]) ⟨hx, hb, hml, hown, htb⟩ (c_Pt_at l bb hbb 3 (by decide)) (gS mw_349 mw_350 mw_12 mc_Pt_at) rfl rfl (by decide +kernel) ⟨Nat.le_of_ble_eq_true rfl, Nat.le_of_ble_eq_true rfl⟩ rfl hl.1 rfl (Nat.le_of_ble_eq_true rfl) d_Pt_valueAtOnes_16 ⟨Nat.zero_le _, Nat.zero_le _⟩ (fun r_8 hr_8 => ?_)
          subst hr_8
          refine W.eq (g2 := F0 m 19 ls [.int (nI (bb 3) - 1), .int (nI (max (max (max (bb 5 - 1) (bb 0)) (bb 1)) (bb 2)))]) rfl ?_
          refine lv_iconst (v := 1) hx hb d_Pt_valueAtOnes_19 (by decide) ?_
          refine lv_iadd hx hb d_Pt_valueAtOnes_20 ?_
          rw [m1_add]
          refine va_mmax hx hb (by rw [hml]; exact hl.1.symm) hown (htb _ mw_357) (htb _ mw_145) (htb _ mw_11) (htb _ mc_max) (Nat.le_of_ble_eq_true rfl) (Nat.le_of_ble_eq_true rfl) (Nat.zero_le _) (Nat.zero_le _) d_Pt_valueAtOnes_21 ?_
          refine lv_topi (fun x_9 ex_9 => ?_)
          rw [nI_max (by omega) (by omega)] at ex_9
          subst ex_9
          refine lv_istore_n (lv' := [(2, .int (nI (max (max (max (max (bb 5 - 1) (bb 0)) (bb 1)) (bb 2)) (bb 3)))), (3, .int 3), (0, .long (en bb))]) hx hb d_Pt_valueAtOnes_24 rfl hl (by decide) rfl (fun ls hl => ?_)
          refine lv_iinc (v := 4) (lv' := [(3, .int 4), (2, .int (nI (max (max (max (max (bb 5 - 1) (bb 0)) (bb 1)) (bb 2)) (bb 3)))), (0, .long (en bb))]) hx hb d_Pt_valueAtOnes_25 hl (k := 1) rfl (by first | rfl | decide) (by decide) rfl (fun ls hl => ?_)
          refine lv_goto (tgt := 8) hx hb d_Pt_valueAtOnes_28 (by decide) ?_
          refine lv_iload_n hx hb d_Pt_valueAtOnes_8 rfl (lv_at hl 0 rfl) ?_
          refine lv_iconst (v := 5) hx hb d_Pt_valueAtOnes_9 (by decide) ?_
          refine lv_icmp_ge (tgt := 31) hx hb d_Pt_valueAtOnes_10 (by decide) (fun c_10_4 => ?_) (fun c_10_4 => ?_)
          · exact absurd c_10_4 (by decide)
          · refine lv_iload_n hx hb d_Pt_valueAtOnes_13 rfl (lv_at hl 1 rfl) ?_
            refine lv_lload_n hx hb d_Pt_valueAtOnes_14 rfl (lv_at hl 2 rfl) ?_
            refine lv_iload_n hx hb d_Pt_valueAtOnes_15 rfl (lv_at hl 0 rfl) ?_
            refine ry_callS (n := 2) (As := [.long (en bb), .int 4]) (rest := [.int (nI (max (max (max (max (bb 5 - 1) (bb 0)) (bb 1)) (bb 2)) (bb 3)))]) ⟨hx, hb, hml, hown, htb⟩ (c_Pt_at l bb hbb 4 (by decide)) (gS mw_349 mw_350 mw_12 mc_Pt_at) rfl rfl (by decide +kernel) ⟨Nat.le_of_ble_eq_true rfl, Nat.le_of_ble_eq_true rfl⟩ rfl hl.1 rfl (Nat.le_of_ble_eq_true rfl) d_Pt_valueAtOnes_16 ⟨Nat.zero_le _, Nat.zero_le _⟩ (fun r_10 hr_10 => ?_)
            subst hr_10
            refine W.eq (g2 := F0 m 19 ls [.int (nI (bb 4) - 1), .int (nI (max (max (max (max (bb 5 - 1) (bb 0)) (bb 1)) (bb 2)) (bb 3)))]) rfl ?_
            refine lv_iconst (v := 1) hx hb d_Pt_valueAtOnes_19 (by decide) ?_
            refine lv_iadd hx hb d_Pt_valueAtOnes_20 ?_
            rw [m1_add]
            refine va_mmax hx hb (by rw [hml]; exact hl.1.symm) hown (htb _ mw_357) (htb _ mw_145) (htb _ mw_11) (htb _ mc_max) (Nat.le_of_ble_eq_true rfl) (Nat.le_of_ble_eq_true rfl) (Nat.zero_le _) (Nat.zero_le _) d_Pt_valueAtOnes_21 ?_
            refine lv_topi (fun x_11 ex_11 => ?_)
            rw [nI_max (by omega) (by omega)] at ex_11
            subst ex_11
            refine lv_istore_n (lv' := [(2, .int (nI (max (max (max (max (max (bb 5 - 1) (bb 0)) (bb 1)) (bb 2)) (bb 3)) (bb 4)))), (3, .int 4), (0, .long (en bb))]) hx hb d_Pt_valueAtOnes_24 rfl hl (by decide) rfl (fun ls hl => ?_)
            refine lv_iinc (v := 5) (lv' := [(3, .int 5), (2, .int (nI (max (max (max (max (max (bb 5 - 1) (bb 0)) (bb 1)) (bb 2)) (bb 3)) (bb 4)))), (0, .long (en bb))]) hx hb d_Pt_valueAtOnes_25 hl (k := 1) rfl (by first | rfl | decide) (by decide) rfl (fun ls hl => ?_)
            refine lv_goto (tgt := 8) hx hb d_Pt_valueAtOnes_28 (by decide) ?_
            refine lv_iload_n hx hb d_Pt_valueAtOnes_8 rfl (lv_at hl 0 rfl) ?_
            refine lv_iconst (v := 5) hx hb d_Pt_valueAtOnes_9 (by decide) ?_
            refine lv_icmp_ge (tgt := 31) hx hb d_Pt_valueAtOnes_10 (by decide) (fun c_10_5 => ?_) (fun c_10_5 => ?_)
            · refine lv_iload_n hx hb d_Pt_valueAtOnes_31 rfl (lv_at hl 1 rfl) ?_
              exact W.iret (v := (nI (max (max (max (max (max (bb 5 - 1) (bb 0)) (bb 1)) (bb 2)) (bb 3)) (bb 4)))) hx hb hr (fun t ht hW => ⟨(nI (max (max (max (max (max (bb 5 - 1) (bb 0)) (bb 1)) (bb 2)) (bb 3)) (bb 4))), rfl, rfl, ht⟩) (fun _ h => by cases h) d_Pt_valueAtOnes_32
            · exact absurd (by decide) c_10_5

set_option maxHeartbeats 4000000 in
set_option maxRecDepth 100000 in
theorem c_Pt_joined (l : Launch) (b1 b2 : Nat → Nat) (hb1 : byt b1) (hb2 : byt b2) : Met l y_Pt_joined (cw_Pt_joined :: tb) (rmH 2 0 0) (va_Pc [.long (en b1), .long (en b2)] (fun _ => True)) (ry_S ry_l (fun r => r = en (jn b1 b2))) 0 0 (fun _ => False) := by
  refine Met.ofW (cc := b_Pt_joined) (maxL := 9) (ret := (some .long)) (by decide +kernel) rfl ?_
  intro p e s m args below meth c s₁ B hml0 hv
  have C0 := cx_of B hml0 rfl
  obtain ⟨hx, hb, hr, hml, hown, htb, hlocks⟩ := id C0
  obtain ⟨rfl, -⟩ := hv
  have hl := lv_entry ([.long (en b1), .long (en b2)]) (n := 9) (Nat.le_of_ble_eq_true rfl)
  rw [lg_entry_eq]
  generalize (lg_sl ([.long (en b1), .long (en b2)]) ++ List.replicate (9 - (lg_sl ([.long (en b1), .long (en b2)])).length) Slot.unset).toArray = ls at hl ⊢
  have hl : lv_has ls 9 [(0, .long (en b1)), (2, .long (en b2))] := hl
  obtain ⟨q0, q1, q2, q3, q4, q5⟩ := byt_all hb1
  obtain ⟨u0, u1, u2, u3, u4, u5⟩ := byt_all hb2
  have hgr := gr_lt hb1 hb2
  refine lv_lconst (v := 0) hx hb d_Pt_joined_0 (by decide) ?_
  refine lv_lstore (lv' := [(4, .long (0 : Int64)), (0, .long (en b1)), (2, .long (en b2))]) hx hb d_Pt_joined_1 hl (by decide) rfl (fun ls hl => ?_)
  refine lv_iconst (v := (-1)) hx hb d_Pt_joined_3 (by decide) ?_
  refine lv_istore (lv' := [(6, .int (-1)), (4, .long (0 : Int64)), (0, .long (en b1)), (2, .long (en b2))]) hx hb d_Pt_joined_4 hl (by decide) rfl (fun ls hl => ?_)
  refine lv_iconst (v := 0) hx hb d_Pt_joined_6 (by decide) ?_
  refine lv_istore (lv' := [(7, .int 0), (6, .int (-1)), (4, .long (0 : Int64)), (0, .long (en b1)), (2, .long (en b2))]) hx hb d_Pt_joined_7 hl (by decide) rfl (fun ls hl => ?_)
  refine lv_iload hx hb d_Pt_joined_9 (lv_at hl 0 rfl) ?_
  refine lv_iconst (v := 5) hx hb d_Pt_joined_11 (by decide) ?_
  refine lv_icmp_ge (tgt := 59) hx hb d_Pt_joined_12 (by decide) (fun c_12 => ?_) (fun c_12 => ?_)
  · exact absurd c_12 (by decide)
  · refine lv_lload_n hx hb d_Pt_joined_15 rfl (lv_at hl 3 rfl) ?_
    refine lv_iload hx hb d_Pt_joined_16 (lv_at hl 0 rfl) ?_
    refine ry_callS (n := 2) (As := [.long (en b1), .int 0]) (rest := []) ⟨hx, hb, hml, hown, htb⟩ (c_Pt_at l b1 hb1 0 (by decide)) (gS mw_349 mw_350 mw_12 mc_Pt_at) rfl rfl (by decide +kernel) ⟨Nat.le_of_ble_eq_true rfl, Nat.le_of_ble_eq_true rfl⟩ rfl hl.1 rfl (Nat.le_of_ble_eq_true rfl) d_Pt_joined_18 ⟨Nat.zero_le _, Nat.zero_le _⟩ (fun r_1 hr_1 => ?_)
    subst hr_1
    refine W.eq (g2 := F0 m 21 ls [.int (nI (b1 0) - 1)]) rfl ?_
    refine lv_lload_n hx hb d_Pt_joined_21 rfl (lv_at hl 4 rfl) ?_
    refine lv_iload hx hb d_Pt_joined_22 (lv_at hl 0 rfl) ?_
    refine ry_callS (n := 2) (As := [.long (en b2), .int 0]) (rest := [.int (nI (b1 0) - 1)]) ⟨hx, hb, hml, hown, htb⟩ (c_Pt_at l b2 hb2 0 (by decide)) (gS mw_349 mw_350 mw_12 mc_Pt_at) rfl rfl (by decide +kernel) ⟨Nat.le_of_ble_eq_true rfl, Nat.le_of_ble_eq_true rfl⟩ rfl hl.1 rfl (Nat.le_of_ble_eq_true rfl) d_Pt_joined_24 ⟨Nat.zero_le _, Nat.zero_le _⟩ (fun r_2 hr_2 => ?_)
    subst hr_2
    refine W.eq (g2 := F0 m 27 ls [.int (nI (b2 0) - 1), .int (nI (b1 0) - 1)]) rfl ?_
    refine va_mmax hx hb (by rw [hml]; exact hl.1.symm) hown (htb _ mw_357) (htb _ mw_145) (htb _ mw_11) (htb _ mc_max) (Nat.le_of_ble_eq_true rfl) (Nat.le_of_ble_eq_true rfl) (Nat.zero_le _) (Nat.zero_le _) d_Pt_joined_27 ?_
    refine lv_topi (fun x_3 ex_3 => ?_)
    rw [m1_max (by omega) (by omega)] at ex_3
    subst ex_3
    refine lv_istore (lv' := [(8, .int (nI (max (b1 0) (b2 0)) - 1)), (7, .int 0), (6, .int (-1)), (4, .long (0 : Int64)), (0, .long (en b1)), (2, .long (en b2))]) hx hb d_Pt_joined_30 hl (by decide) rfl (fun ls hl => ?_)
    refine lv_lload hx hb d_Pt_joined_32 (lv_at hl 3 rfl) ?_
    refine lv_iload hx hb d_Pt_joined_34 (lv_at hl 1 rfl) ?_
    refine lv_iload hx hb d_Pt_joined_36 (lv_at hl 0 rfl) ?_
    refine ry_callS (n := 2) (As := [.int 0, .int (nI (max (b1 0) (b2 0)) - 1)]) (rest := [.long (0 : Int64)]) ⟨hx, hb, hml, hown, htb⟩ (c_Pt_only l 0 (max (b1 0) (b2 0)) (by decide) (by omega)) (gS mw_353 mw_340 mw_12 mc_Pt_only) rfl rfl (by decide +kernel) ⟨Nat.le_of_ble_eq_true rfl, Nat.le_of_ble_eq_true rfl⟩ rfl hl.1 rfl (Nat.le_of_ble_eq_true rfl) d_Pt_joined_38 ⟨Nat.zero_le _, Nat.zero_le _⟩ (fun r_4 hr_4 => ?_)
    subst hr_4
    refine W.eq (g2 := F0 m 41 ls [.long (lN ((max (b1 0) (b2 0)) * 256 ^ 0)), .long (0 : Int64)]) rfl ?_
    refine lv_lor hx hb d_Pt_joined_41 ?_
    refine lv_topl (fun x_5 ex_5 => ?_)
    rw [show ((0 : Int64) ||| (lN ((max (b1 0) (b2 0)) * 256 ^ 0)) : Int64) = lN (es (jn b1 b2) 1) from or_jn hb1 hb2 (k := 0) (by decide)] at ex_5
    subst ex_5
    refine lv_lstore (lv' := [(4, .long (lN (es (jn b1 b2) 1))), (8, .int (nI (max (b1 0) (b2 0)) - 1)), (7, .int 0), (6, .int (-1)), (0, .long (en b1)), (2, .long (en b2))]) hx hb d_Pt_joined_42 hl (by decide) rfl (fun ls hl => ?_)
    refine lv_iload hx hb d_Pt_joined_44 (lv_at hl 3 rfl) ?_
    refine lv_iload hx hb d_Pt_joined_46 (lv_at hl 1 rfl) ?_
    refine va_mmax hx hb (by rw [hml]; exact hl.1.symm) hown (htb _ mw_357) (htb _ mw_145) (htb _ mw_11) (htb _ mc_max) (Nat.le_of_ble_eq_true rfl) (Nat.le_of_ble_eq_true rfl) (Nat.zero_le _) (Nat.zero_le _) d_Pt_joined_48 ?_
    refine lv_topi (fun x_6 ex_6 => ?_)
    rw [m1_max0 (by omega)] at ex_6
    subst ex_6
    refine lv_istore (lv' := [(6, .int (nI (max 0 (max (b1 0) (b2 0))) - 1)), (4, .long (lN (es (jn b1 b2) 1))), (8, .int (nI (max (b1 0) (b2 0)) - 1)), (7, .int 0), (0, .long (en b1)), (2, .long (en b2))]) hx hb d_Pt_joined_51 hl (by decide) rfl (fun ls hl => ?_)
    refine lv_iinc (v := 1) (lv' := [(7, .int 1), (6, .int (nI (max 0 (max (b1 0) (b2 0))) - 1)), (4, .long (lN (es (jn b1 b2) 1))), (8, .int (nI (max (b1 0) (b2 0)) - 1)), (0, .long (en b1)), (2, .long (en b2))]) hx hb d_Pt_joined_53 hl (k := 3) rfl (by first | rfl | decide) (by decide) rfl (fun ls hl => ?_)
    refine lv_goto (tgt := 9) hx hb d_Pt_joined_56 (by decide) ?_
    refine lv_iload hx hb d_Pt_joined_9 (lv_at hl 0 rfl) ?_
    refine lv_iconst (v := 5) hx hb d_Pt_joined_11 (by decide) ?_
    refine lv_icmp_ge (tgt := 59) hx hb d_Pt_joined_12 (by decide) (fun c_12_1 => ?_) (fun c_12_1 => ?_)
    · exact absurd c_12_1 (by decide)
    · refine lv_lload_n hx hb d_Pt_joined_15 rfl (lv_at hl 4 rfl) ?_
      refine lv_iload hx hb d_Pt_joined_16 (lv_at hl 0 rfl) ?_
      refine ry_callS (n := 2) (As := [.long (en b1), .int 1]) (rest := []) ⟨hx, hb, hml, hown, htb⟩ (c_Pt_at l b1 hb1 1 (by decide)) (gS mw_349 mw_350 mw_12 mc_Pt_at) rfl rfl (by decide +kernel) ⟨Nat.le_of_ble_eq_true rfl, Nat.le_of_ble_eq_true rfl⟩ rfl hl.1 rfl (Nat.le_of_ble_eq_true rfl) d_Pt_joined_18 ⟨Nat.zero_le _, Nat.zero_le _⟩ (fun r_7 hr_7 => ?_)
      subst hr_7
      refine W.eq (g2 := F0 m 21 ls [.int (nI (b1 1) - 1)]) rfl ?_
      refine lv_lload_n hx hb d_Pt_joined_21 rfl (lv_at hl 5 rfl) ?_
      refine lv_iload hx hb d_Pt_joined_22 (lv_at hl 0 rfl) ?_
      refine ry_callS (n := 2) (As := [.long (en b2), .int 1]) (rest := [.int (nI (b1 1) - 1)]) ⟨hx, hb, hml, hown, htb⟩ (c_Pt_at l b2 hb2 1 (by decide)) (gS mw_349 mw_350 mw_12 mc_Pt_at) rfl rfl (by decide +kernel) ⟨Nat.le_of_ble_eq_true rfl, Nat.le_of_ble_eq_true rfl⟩ rfl hl.1 rfl (Nat.le_of_ble_eq_true rfl) d_Pt_joined_24 ⟨Nat.zero_le _, Nat.zero_le _⟩ (fun r_8 hr_8 => ?_)
      subst hr_8
      refine W.eq (g2 := F0 m 27 ls [.int (nI (b2 1) - 1), .int (nI (b1 1) - 1)]) rfl ?_
      refine va_mmax hx hb (by rw [hml]; exact hl.1.symm) hown (htb _ mw_357) (htb _ mw_145) (htb _ mw_11) (htb _ mc_max) (Nat.le_of_ble_eq_true rfl) (Nat.le_of_ble_eq_true rfl) (Nat.zero_le _) (Nat.zero_le _) d_Pt_joined_27 ?_
      refine lv_topi (fun x_9 ex_9 => ?_)
      rw [m1_max (by omega) (by omega)] at ex_9
      subst ex_9
      refine lv_istore (lv' := [(8, .int (nI (max (b1 1) (b2 1)) - 1)), (7, .int 1), (6, .int (nI (max 0 (max (b1 0) (b2 0))) - 1)), (4, .long (lN (es (jn b1 b2) 1))), (0, .long (en b1)), (2, .long (en b2))]) hx hb d_Pt_joined_30 hl (by decide) rfl (fun ls hl => ?_)
      refine lv_lload hx hb d_Pt_joined_32 (lv_at hl 3 rfl) ?_
      refine lv_iload hx hb d_Pt_joined_34 (lv_at hl 1 rfl) ?_
      refine lv_iload hx hb d_Pt_joined_36 (lv_at hl 0 rfl) ?_
      refine ry_callS (n := 2) (As := [.int 1, .int (nI (max (b1 1) (b2 1)) - 1)]) (rest := [.long (lN (es (jn b1 b2) 1))]) ⟨hx, hb, hml, hown, htb⟩ (c_Pt_only l 1 (max (b1 1) (b2 1)) (by decide) (by omega)) (gS mw_353 mw_340 mw_12 mc_Pt_only) rfl rfl (by decide +kernel) ⟨Nat.le_of_ble_eq_true rfl, Nat.le_of_ble_eq_true rfl⟩ rfl hl.1 rfl (Nat.le_of_ble_eq_true rfl) d_Pt_joined_38 ⟨Nat.zero_le _, Nat.zero_le _⟩ (fun r_10 hr_10 => ?_)
      subst hr_10
      refine W.eq (g2 := F0 m 41 ls [.long (lN ((max (b1 1) (b2 1)) * 256 ^ 1)), .long (lN (es (jn b1 b2) 1))]) rfl ?_
      refine lv_lor hx hb d_Pt_joined_41 ?_
      refine lv_topl (fun x_11 ex_11 => ?_)
      rw [show ((lN (es (jn b1 b2) 1)) ||| (lN ((max (b1 1) (b2 1)) * 256 ^ 1)) : Int64) = lN (es (jn b1 b2) 2) from or_jn hb1 hb2 (k := 1) (by decide)] at ex_11
      subst ex_11
      refine lv_lstore (lv' := [(4, .long (lN (es (jn b1 b2) 2))), (8, .int (nI (max (b1 1) (b2 1)) - 1)), (7, .int 1), (6, .int (nI (max 0 (max (b1 0) (b2 0))) - 1)), (0, .long (en b1)), (2, .long (en b2))]) hx hb d_Pt_joined_42 hl (by decide) rfl (fun ls hl => ?_)
      refine lv_iload hx hb d_Pt_joined_44 (lv_at hl 3 rfl) ?_
      refine lv_iload hx hb d_Pt_joined_46 (lv_at hl 1 rfl) ?_
      refine va_mmax hx hb (by rw [hml]; exact hl.1.symm) hown (htb _ mw_357) (htb _ mw_145) (htb _ mw_11) (htb _ mc_max) (Nat.le_of_ble_eq_true rfl) (Nat.le_of_ble_eq_true rfl) (Nat.zero_le _) (Nat.zero_le _) d_Pt_joined_48 ?_
      refine lv_topi (fun x_12 ex_12 => ?_)
      rw [m1_max (by omega) (by omega)] at ex_12
      subst ex_12
      refine lv_istore (lv' := [(6, .int (nI (max (max 0 (max (b1 0) (b2 0))) (max (b1 1) (b2 1))) - 1)), (4, .long (lN (es (jn b1 b2) 2))), (8, .int (nI (max (b1 1) (b2 1)) - 1)), (7, .int 1), (0, .long (en b1)), (2, .long (en b2))]) hx hb d_Pt_joined_51 hl (by decide) rfl (fun ls hl => ?_)
      refine lv_iinc (v := 2) (lv' := [(7, .int 2), (6, .int (nI (max (max 0 (max (b1 0) (b2 0))) (max (b1 1) (b2 1))) - 1)), (4, .long (lN (es (jn b1 b2) 2))), (8, .int (nI (max (b1 1) (b2 1)) - 1)), (0, .long (en b1)), (2, .long (en b2))]) hx hb d_Pt_joined_53 hl (k := 3) rfl (by first | rfl | decide) (by decide) rfl (fun ls hl => ?_)
      refine lv_goto (tgt := 9) hx hb d_Pt_joined_56 (by decide) ?_
      refine lv_iload hx hb d_Pt_joined_9 (lv_at hl 0 rfl) ?_
      refine lv_iconst (v := 5) hx hb d_Pt_joined_11 (by decide) ?_
      refine lv_icmp_ge (tgt := 59) hx hb d_Pt_joined_12 (by decide) (fun c_12_2 => ?_) (fun c_12_2 => ?_)
      · exact absurd c_12_2 (by decide)
      · refine lv_lload_n hx hb d_Pt_joined_15 rfl (lv_at hl 4 rfl) ?_
        refine lv_iload hx hb d_Pt_joined_16 (lv_at hl 0 rfl) ?_
        refine ry_callS (n := 2) (As := [.long (en b1), .int 2]) (rest := []) ⟨hx, hb, hml, hown, htb⟩ (c_Pt_at l b1 hb1 2 (by decide)) (gS mw_349 mw_350 mw_12 mc_Pt_at) rfl rfl (by decide +kernel) ⟨Nat.le_of_ble_eq_true rfl, Nat.le_of_ble_eq_true rfl⟩ rfl hl.1 rfl (Nat.le_of_ble_eq_true rfl) d_Pt_joined_18 ⟨Nat.zero_le _, Nat.zero_le _⟩ (fun r_13 hr_13 => ?_)
        subst hr_13
        refine W.eq (g2 := F0 m 21 ls [.int (nI (b1 2) - 1)]) rfl ?_
        refine lv_lload_n hx hb d_Pt_joined_21 rfl (lv_at hl 5 rfl) ?_
        refine lv_iload hx hb d_Pt_joined_22 (lv_at hl 0 rfl) ?_
        refine ry_callS (n := 2) (As := [.long (en b2), .int 2]) (rest := [.int (nI (b1 2) - 1)]) ⟨hx, hb, hml, hown, htb⟩ (c_Pt_at l b2 hb2 2 (by decide)) (gS mw_349 mw_350 mw_12 mc_Pt_at) rfl rfl (by decide +kernel) ⟨Nat.le_of_ble_eq_true rfl, Nat.le_of_ble_eq_true rfl⟩ rfl hl.1 rfl (Nat.le_of_ble_eq_true rfl) d_Pt_joined_24 ⟨Nat.zero_le _, Nat.zero_le _⟩ (fun r_14 hr_14 => ?_)
        subst hr_14
        refine W.eq (g2 := F0 m 27 ls [.int (nI (b2 2) - 1), .int (nI (b1 2) - 1)]) rfl ?_
        refine va_mmax hx hb (by rw [hml]; exact hl.1.symm) hown (htb _ mw_357) (htb _ mw_145) (htb _ mw_11) (htb _ mc_max) (Nat.le_of_ble_eq_true rfl) (Nat.le_of_ble_eq_true rfl) (Nat.zero_le _) (Nat.zero_le _) d_Pt_joined_27 ?_
        refine lv_topi (fun x_15 ex_15 => ?_)
        rw [m1_max (by omega) (by omega)] at ex_15
        subst ex_15
        refine lv_istore (lv' := [(8, .int (nI (max (b1 2) (b2 2)) - 1)), (7, .int 2), (6, .int (nI (max (max 0 (max (b1 0) (b2 0))) (max (b1 1) (b2 1))) - 1)), (4, .long (lN (es (jn b1 b2) 2))), (0, .long (en b1)), (2, .long (en b2))]) hx hb d_Pt_joined_30 hl (by decide) rfl (fun ls hl => ?_)
        refine lv_lload hx hb d_Pt_joined_32 (lv_at hl 3 rfl) ?_
        refine lv_iload hx hb d_Pt_joined_34 (lv_at hl 1 rfl) ?_
        refine lv_iload hx hb d_Pt_joined_36 (lv_at hl 0 rfl) ?_
        refine ry_callS (n := 2) (As := [.int 2, .int (nI (max (b1 2) (b2 2)) - 1)]) (rest := [.long (lN (es (jn b1 b2) 2))]) ⟨hx, hb, hml, hown, htb⟩ (c_Pt_only l 2 (max (b1 2) (b2 2)) (by decide) (by omega)) (gS mw_353 mw_340 mw_12 mc_Pt_only) rfl rfl (by decide +kernel) ⟨Nat.le_of_ble_eq_true rfl, Nat.le_of_ble_eq_true rfl⟩ rfl hl.1 rfl (Nat.le_of_ble_eq_true rfl) d_Pt_joined_38 ⟨Nat.zero_le _, Nat.zero_le _⟩ (fun r_16 hr_16 => ?_)
        subst hr_16
        refine W.eq (g2 := F0 m 41 ls [.long (lN ((max (b1 2) (b2 2)) * 256 ^ 2)), .long (lN (es (jn b1 b2) 2))]) rfl ?_
        refine lv_lor hx hb d_Pt_joined_41 ?_
        refine lv_topl (fun x_17 ex_17 => ?_)
        rw [show ((lN (es (jn b1 b2) 2)) ||| (lN ((max (b1 2) (b2 2)) * 256 ^ 2)) : Int64) = lN (es (jn b1 b2) 3) from or_jn hb1 hb2 (k := 2) (by decide)] at ex_17
        subst ex_17
        refine lv_lstore (lv' := [(4, .long (lN (es (jn b1 b2) 3))), (8, .int (nI (max (b1 2) (b2 2)) - 1)), (7, .int 2), (6, .int (nI (max (max 0 (max (b1 0) (b2 0))) (max (b1 1) (b2 1))) - 1)), (0, .long (en b1)), (2, .long (en b2))]) hx hb d_Pt_joined_42 hl (by decide) rfl (fun ls hl => ?_)
        refine lv_iload hx hb d_Pt_joined_44 (lv_at hl 3 rfl) ?_
        refine lv_iload hx hb d_Pt_joined_46 (lv_at hl 1 rfl) ?_
        refine va_mmax hx hb (by rw [hml]; exact hl.1.symm) hown (htb _ mw_357) (htb _ mw_145) (htb _ mw_11) (htb _ mc_max) (Nat.le_of_ble_eq_true rfl) (Nat.le_of_ble_eq_true rfl) (Nat.zero_le _) (Nat.zero_le _) d_Pt_joined_48 ?_
        refine lv_topi (fun x_18 ex_18 => ?_)
        rw [m1_max (by omega) (by omega)] at ex_18
        subst ex_18
        refine lv_istore (lv' := [(6, .int (nI (max (max (max 0 (max (b1 0) (b2 0))) (max (b1 1) (b2 1))) (max (b1 2) (b2 2))) - 1)), (4, .long (lN (es (jn b1 b2) 3))), (8, .int (nI (max (b1 2) (b2 2)) - 1)), (7, .int 2), (0, .long (en b1)), (2, .long (en b2))]) hx hb d_Pt_joined_51 hl (by decide) rfl (fun ls hl => ?_)
        refine lv_iinc (v := 3) (lv' := [(7, .int 3), (6, .int (nI (max (max (max 0 (max (b1 0) (b2 0))) (max (b1 1) (b2 1))) (max (b1 2) (b2 2))) - 1)), (4, .long (lN (es (jn b1 b2) 3))), (8, .int (nI (max (b1 2) (b2 2)) - 1)), (0, .long (en b1)), (2, .long (en b2))]) hx hb d_Pt_joined_53 hl (k := 3) rfl (by first | rfl | decide) (by decide) rfl (fun ls hl => ?_)
        refine lv_goto (tgt := 9) hx hb d_Pt_joined_56 (by decide) ?_
        refine lv_iload hx hb d_Pt_joined_9 (lv_at hl 0 rfl) ?_
        refine lv_iconst (v := 5) hx hb d_Pt_joined_11 (by decide) ?_
        refine lv_icmp_ge (tgt := 59) hx hb d_Pt_joined_12 (by decide) (fun c_12_3 => ?_) (fun c_12_3 => ?_)
        · exact absurd c_12_3 (by decide)
        · refine lv_lload_n hx hb d_Pt_joined_15 rfl (lv_at hl 4 rfl) ?_
          refine lv_iload hx hb d_Pt_joined_16 (lv_at hl 0 rfl) ?_
          refine ry_callS (n := 2) (As := [.long (en b1), .int 3]) (rest := []) ⟨hx, hb, hml, hown, htb⟩ (c_Pt_at l b1 hb1 3 (by decide)) (gS mw_349 mw_350 mw_12 mc_Pt_at) rfl rfl (by decide +kernel) ⟨Nat.le_of_ble_eq_true rfl, Nat.le_of_ble_eq_true rfl⟩ rfl hl.1 rfl (Nat.le_of_ble_eq_true rfl) d_Pt_joined_18 ⟨Nat.zero_le _, Nat.zero_le _⟩ (fun r_19 hr_19 => ?_)
          subst hr_19
          refine W.eq (g2 := F0 m 21 ls [.int (nI (b1 3) - 1)]) rfl ?_
          refine lv_lload_n hx hb d_Pt_joined_21 rfl (lv_at hl 5 rfl) ?_
          refine lv_iload hx hb d_Pt_joined_22 (lv_at hl 0 rfl) ?_
          refine ry_callS (n := 2) (As := [.long (en b2), .int 3]) (rest := [.int (nI (b1 3) - 1)]) ⟨hx, hb, hml, hown, htb⟩ (c_Pt_at l b2 hb2 3 (by decide)) (gS mw_349 mw_350 mw_12 mc_Pt_at) rfl rfl (by decide +kernel) ⟨Nat.le_of_ble_eq_true rfl, Nat.le_of_ble_eq_true rfl⟩ rfl hl.1 rfl (Nat.le_of_ble_eq_true rfl) d_Pt_joined_24 ⟨Nat.zero_le _, Nat.zero_le _⟩ (fun r_20 hr_20 => ?_)
          subst hr_20
          refine W.eq (g2 := F0 m 27 ls [.int (nI (b2 3) - 1), .int (nI (b1 3) - 1)]) rfl ?_
          refine va_mmax hx hb (by rw [hml]; exact hl.1.symm) hown (htb _ mw_357) (htb _ mw_145) (htb _ mw_11) (htb _ mc_max) (Nat.le_of_ble_eq_true rfl) (Nat.le_of_ble_eq_true rfl) (Nat.zero_le _) (Nat.zero_le _) d_Pt_joined_27 ?_
          refine lv_topi (fun x_21 ex_21 => ?_)
          rw [m1_max (by omega) (by omega)] at ex_21
          subst ex_21
          refine lv_istore (lv' := [(8, .int (nI (max (b1 3) (b2 3)) - 1)), (7, .int 3), (6, .int (nI (max (max (max 0 (max (b1 0) (b2 0))) (max (b1 1) (b2 1))) (max (b1 2) (b2 2))) - 1)), (4, .long (lN (es (jn b1 b2) 3))), (0, .long (en b1)), (2, .long (en b2))]) hx hb d_Pt_joined_30 hl (by decide) rfl (fun ls hl => ?_)
          refine lv_lload hx hb d_Pt_joined_32 (lv_at hl 3 rfl) ?_
          refine lv_iload hx hb d_Pt_joined_34 (lv_at hl 1 rfl) ?_
          refine lv_iload hx hb d_Pt_joined_36 (lv_at hl 0 rfl) ?_
          refine ry_callS (n := 2) (As := [.int 3, .int (nI (max (b1 3) (b2 3)) - 1)]) (rest := [.long (lN (es (jn b1 b2) 3))]) ⟨hx, hb, hml, hown, htb⟩ (c_Pt_only l 3 (max (b1 3) (b2 3)) (by decide) (by omega)) (gS mw_353 mw_340 mw_12 mc_Pt_only) rfl rfl (by decide +kernel) ⟨Nat.le_of_ble_eq_true rfl, Nat.le_of_ble_eq_true rfl⟩ rfl hl.1 rfl (Nat.le_of_ble_eq_true rfl) d_Pt_joined_38 ⟨Nat.zero_le _, Nat.zero_le _⟩ (fun r_22 hr_22 => ?_)
          subst hr_22
          refine W.eq (g2 := F0 m 41 ls [.long (lN ((max (b1 3) (b2 3)) * 256 ^ 3)), .long (lN (es (jn b1 b2) 3))]) rfl ?_
          refine lv_lor hx hb d_Pt_joined_41 ?_
          refine lv_topl (fun x_23 ex_23 => ?_)
          rw [show ((lN (es (jn b1 b2) 3)) ||| (lN ((max (b1 3) (b2 3)) * 256 ^ 3)) : Int64) = lN (es (jn b1 b2) 4) from or_jn hb1 hb2 (k := 3) (by decide)] at ex_23
          subst ex_23
          refine lv_lstore (lv' := [(4, .long (lN (es (jn b1 b2) 4))), (8, .int (nI (max (b1 3) (b2 3)) - 1)), (7, .int 3), (6, .int (nI (max (max (max 0 (max (b1 0) (b2 0))) (max (b1 1) (b2 1))) (max (b1 2) (b2 2))) - 1)), (0, .long (en b1)), (2, .long (en b2))]) hx hb d_Pt_joined_42 hl (by decide) rfl (fun ls hl => ?_)
          refine lv_iload hx hb d_Pt_joined_44 (lv_at hl 3 rfl) ?_
          refine lv_iload hx hb d_Pt_joined_46 (lv_at hl 1 rfl) ?_
          refine va_mmax hx hb (by rw [hml]; exact hl.1.symm) hown (htb _ mw_357) (htb _ mw_145) (htb _ mw_11) (htb _ mc_max) (Nat.le_of_ble_eq_true rfl) (Nat.le_of_ble_eq_true rfl) (Nat.zero_le _) (Nat.zero_le _) d_Pt_joined_48 ?_
          refine lv_topi (fun x_24 ex_24 => ?_)
          rw [m1_max (by omega) (by omega)] at ex_24
          subst ex_24
          refine lv_istore (lv' := [(6, .int (nI (max (max (max (max 0 (max (b1 0) (b2 0))) (max (b1 1) (b2 1))) (max (b1 2) (b2 2))) (max (b1 3) (b2 3))) - 1)), (4, .long (lN (es (jn b1 b2) 4))), (8, .int (nI (max (b1 3) (b2 3)) - 1)), (7, .int 3), (0, .long (en b1)), (2, .long (en b2))]) hx hb d_Pt_joined_51 hl (by decide) rfl (fun ls hl => ?_)
          refine lv_iinc (v := 4) (lv' := [(7, .int 4), (6, .int (nI (max (max (max (max 0 (max (b1 0) (b2 0))) (max (b1 1) (b2 1))) (max (b1 2) (b2 2))) (max (b1 3) (b2 3))) - 1)), (4, .long (lN (es (jn b1 b2) 4))), (8, .int (nI (max (b1 3) (b2 3)) - 1)), (0, .long (en b1)), (2, .long (en b2))]) hx hb d_Pt_joined_53 hl (k := 3) rfl (by first | rfl | decide) (by decide) rfl (fun ls hl => ?_)
          refine lv_goto (tgt := 9) hx hb d_Pt_joined_56 (by decide) ?_
          refine lv_iload hx hb d_Pt_joined_9 (lv_at hl 0 rfl) ?_
          refine lv_iconst (v := 5) hx hb d_Pt_joined_11 (by decide) ?_
          refine lv_icmp_ge (tgt := 59) hx hb d_Pt_joined_12 (by decide) (fun c_12_4 => ?_) (fun c_12_4 => ?_)
          · exact absurd c_12_4 (by decide)
          · refine lv_lload_n hx hb d_Pt_joined_15 rfl (lv_at hl 4 rfl) ?_
            refine lv_iload hx hb d_Pt_joined_16 (lv_at hl 0 rfl) ?_
            refine ry_callS (n := 2) (As := [.long (en b1), .int 4]) (rest := []) ⟨hx, hb, hml, hown, htb⟩ (c_Pt_at l b1 hb1 4 (by decide)) (gS mw_349 mw_350 mw_12 mc_Pt_at) rfl rfl (by decide +kernel) ⟨Nat.le_of_ble_eq_true rfl, Nat.le_of_ble_eq_true rfl⟩ rfl hl.1 rfl (Nat.le_of_ble_eq_true rfl) d_Pt_joined_18 ⟨Nat.zero_le _, Nat.zero_le _⟩ (fun r_25 hr_25 => ?_)
            subst hr_25
            refine W.eq (g2 := F0 m 21 ls [.int (nI (b1 4) - 1)]) rfl ?_
            refine lv_lload_n hx hb d_Pt_joined_21 rfl (lv_at hl 5 rfl) ?_
            refine lv_iload hx hb d_Pt_joined_22 (lv_at hl 0 rfl) ?_
            refine ry_callS (n := 2) (As := [.long (en b2), .int 4]) (rest := [.int (nI (b1 4) - 1)]) ⟨hx, hb, hml, hown, htb⟩ (c_Pt_at l b2 hb2 4 (by decide)) (gS mw_349 mw_350 mw_12 mc_Pt_at) rfl rfl (by decide +kernel) ⟨Nat.le_of_ble_eq_true rfl, Nat.le_of_ble_eq_true rfl⟩ rfl hl.1 rfl (Nat.le_of_ble_eq_true rfl) d_Pt_joined_24 ⟨Nat.zero_le _, Nat.zero_le _⟩ (fun r_26 hr_26 => ?_)
            subst hr_26
            refine W.eq (g2 := F0 m 27 ls [.int (nI (b2 4) - 1), .int (nI (b1 4) - 1)]) rfl ?_
            refine va_mmax hx hb (by rw [hml]; exact hl.1.symm) hown (htb _ mw_357) (htb _ mw_145) (htb _ mw_11) (htb _ mc_max) (Nat.le_of_ble_eq_true rfl) (Nat.le_of_ble_eq_true rfl) (Nat.zero_le _) (Nat.zero_le _) d_Pt_joined_27 ?_
            refine lv_topi (fun x_27 ex_27 => ?_)
            rw [m1_max (by omega) (by omega)] at ex_27
            subst ex_27
            refine lv_istore (lv' := [(8, .int (nI (max (b1 4) (b2 4)) - 1)), (7, .int 4), (6, .int (nI (max (max (max (max 0 (max (b1 0) (b2 0))) (max (b1 1) (b2 1))) (max (b1 2) (b2 2))) (max (b1 3) (b2 3))) - 1)), (4, .long (lN (es (jn b1 b2) 4))), (0, .long (en b1)), (2, .long (en b2))]) hx hb d_Pt_joined_30 hl (by decide) rfl (fun ls hl => ?_)
            refine lv_lload hx hb d_Pt_joined_32 (lv_at hl 3 rfl) ?_
            refine lv_iload hx hb d_Pt_joined_34 (lv_at hl 1 rfl) ?_
            refine lv_iload hx hb d_Pt_joined_36 (lv_at hl 0 rfl) ?_
            refine ry_callS (n := 2) (As := [.int 4, .int (nI (max (b1 4) (b2 4)) - 1)]) (rest := [.long (lN (es (jn b1 b2) 4))]) ⟨hx, hb, hml, hown, htb⟩ (c_Pt_only l 4 (max (b1 4) (b2 4)) (by decide) (by omega)) (gS mw_353 mw_340 mw_12 mc_Pt_only) rfl rfl (by decide +kernel) ⟨Nat.le_of_ble_eq_true rfl, Nat.le_of_ble_eq_true rfl⟩ rfl hl.1 rfl (Nat.le_of_ble_eq_true rfl) d_Pt_joined_38 ⟨Nat.zero_le _, Nat.zero_le _⟩ (fun r_28 hr_28 => ?_)
            subst hr_28
            refine W.eq (g2 := F0 m 41 ls [.long (lN ((max (b1 4) (b2 4)) * 256 ^ 4)), .long (lN (es (jn b1 b2) 4))]) rfl ?_
            refine lv_lor hx hb d_Pt_joined_41 ?_
            refine lv_topl (fun x_29 ex_29 => ?_)
            rw [show ((lN (es (jn b1 b2) 4)) ||| (lN ((max (b1 4) (b2 4)) * 256 ^ 4)) : Int64) = lN (es (jn b1 b2) 5) from or_jn hb1 hb2 (k := 4) (by decide)] at ex_29
            subst ex_29
            refine lv_lstore (lv' := [(4, .long (lN (es (jn b1 b2) 5))), (8, .int (nI (max (b1 4) (b2 4)) - 1)), (7, .int 4), (6, .int (nI (max (max (max (max 0 (max (b1 0) (b2 0))) (max (b1 1) (b2 1))) (max (b1 2) (b2 2))) (max (b1 3) (b2 3))) - 1)), (0, .long (en b1)), (2, .long (en b2))]) hx hb d_Pt_joined_42 hl (by decide) rfl (fun ls hl => ?_)
            refine lv_iload hx hb d_Pt_joined_44 (lv_at hl 3 rfl) ?_
            refine lv_iload hx hb d_Pt_joined_46 (lv_at hl 1 rfl) ?_
            refine va_mmax hx hb (by rw [hml]; exact hl.1.symm) hown (htb _ mw_357) (htb _ mw_145) (htb _ mw_11) (htb _ mc_max) (Nat.le_of_ble_eq_true rfl) (Nat.le_of_ble_eq_true rfl) (Nat.zero_le _) (Nat.zero_le _) d_Pt_joined_48 ?_
            refine lv_topi (fun x_30 ex_30 => ?_)
            rw [m1_max (by omega) (by omega)] at ex_30
            subst ex_30
            refine lv_istore (lv' := [(6, .int (nI (max (max (max (max (max 0 (max (b1 0) (b2 0))) (max (b1 1) (b2 1))) (max (b1 2) (b2 2))) (max (b1 3) (b2 3))) (max (b1 4) (b2 4))) - 1)), (4, .long (lN (es (jn b1 b2) 5))), (8, .int (nI (max (b1 4) (b2 4)) - 1)), (7, .int 4), (0, .long (en b1)), (2, .long (en b2))]) hx hb d_Pt_joined_51 hl (by decide) rfl (fun ls hl => ?_)
            refine lv_iinc (v := 5) (lv' := [(7, .int 5), (6, .int (nI (max (max (max (max (max 0 (max (b1 0) (b2 0))) (max (b1 1) (b2 1))) (max (b1 2) (b2 2))) (max (b1 3) (b2 3))) (max (b1 4) (b2 4))) - 1)), (4, .long (lN (es (jn b1 b2) 5))), (8, .int (nI (max (b1 4) (b2 4)) - 1)), (0, .long (en b1)), (2, .long (en b2))]) hx hb d_Pt_joined_53 hl (k := 3) rfl (by first | rfl | decide) (by decide) rfl (fun ls hl => ?_)
            refine lv_goto (tgt := 9) hx hb d_Pt_joined_56 (by decide) ?_
            refine lv_iload hx hb d_Pt_joined_9 (lv_at hl 0 rfl) ?_
            refine lv_iconst (v := 5) hx hb d_Pt_joined_11 (by decide) ?_
            refine lv_icmp_ge (tgt := 59) hx hb d_Pt_joined_12 (by decide) (fun c_12_5 => ?_) (fun c_12_5 => ?_)
            · refine lv_lload_n hx hb d_Pt_joined_59 rfl (lv_at hl 4 rfl) ?_
              refine lv_iconst (v := 5) hx hb d_Pt_joined_60 (by decide) ?_
              refine ry_callS (n := 2) (As := [.long (en b1), .int 5]) (rest := []) ⟨hx, hb, hml, hown, htb⟩ (c_Pt_at l b1 hb1 5 (by decide)) (gS mw_349 mw_350 mw_12 mc_Pt_at) rfl rfl (by decide +kernel) ⟨Nat.le_of_ble_eq_true rfl, Nat.le_of_ble_eq_true rfl⟩ rfl hl.1 rfl (Nat.le_of_ble_eq_true rfl) d_Pt_joined_61 ⟨Nat.zero_le _, Nat.zero_le _⟩ (fun r_31 hr_31 => ?_)
              subst hr_31
              refine W.eq (g2 := F0 m 64 ls [.int (nI (b1 5) - 1)]) rfl ?_
              refine lv_lload_n hx hb d_Pt_joined_64 rfl (lv_at hl 5 rfl) ?_
              refine lv_iconst (v := 5) hx hb d_Pt_joined_65 (by decide) ?_
              refine ry_callS (n := 2) (As := [.long (en b2), .int 5]) (rest := [.int (nI (b1 5) - 1)]) ⟨hx, hb, hml, hown, htb⟩ (c_Pt_at l b2 hb2 5 (by decide)) (gS mw_349 mw_350 mw_12 mc_Pt_at) rfl rfl (by decide +kernel) ⟨Nat.le_of_ble_eq_true rfl, Nat.le_of_ble_eq_true rfl⟩ rfl hl.1 rfl (Nat.le_of_ble_eq_true rfl) d_Pt_joined_66 ⟨Nat.zero_le _, Nat.zero_le _⟩ (fun r_32 hr_32 => ?_)
              subst hr_32
              refine W.eq (g2 := F0 m 69 ls [.int (nI (b2 5) - 1), .int (nI (b1 5) - 1)]) rfl ?_
              refine va_mmax hx hb (by rw [hml]; exact hl.1.symm) hown (htb _ mw_357) (htb _ mw_145) (htb _ mw_11) (htb _ mc_max) (Nat.le_of_ble_eq_true rfl) (Nat.le_of_ble_eq_true rfl) (Nat.zero_le _) (Nat.zero_le _) d_Pt_joined_69 ?_
              refine lv_topi (fun x_33 ex_33 => ?_)
              rw [m1_max (by omega) (by omega)] at ex_33
              subst ex_33
              refine lv_istore (lv' := [(7, .int (nI (max (b1 5) (b2 5)) - 1)), (6, .int (nI (max (max (max (max (max 0 (max (b1 0) (b2 0))) (max (b1 1) (b2 1))) (max (b1 2) (b2 2))) (max (b1 3) (b2 3))) (max (b1 4) (b2 4))) - 1)), (4, .long (lN (es (jn b1 b2) 5))), (8, .int (nI (max (b1 4) (b2 4)) - 1)), (0, .long (en b1)), (2, .long (en b2))]) hx hb d_Pt_joined_72 hl (by decide) rfl (fun ls hl => ?_)
              refine lv_iload hx hb d_Pt_joined_74 (lv_at hl 1 rfl) ?_
              refine lv_iconst (v := (-1)) hx hb d_Pt_joined_76 (by decide) ?_
              refine lv_icmp_eq (tgt := 89) hx hb d_Pt_joined_77 (by decide) (fun c_77 => ?_) (fun c_77 => ?_)
              · refine lv_iconst (v := 1) hx hb d_Pt_joined_89 (by decide) ?_
                refine lv_goto (tgt := 94) hx hb d_Pt_joined_90 (by decide) ?_
                refine lv_istore (lv' := [(8, .int 1), (7, .int (nI (max (b1 5) (b2 5)) - 1)), (6, .int (nI (max (max (max (max (max 0 (max (b1 0) (b2 0))) (max (b1 1) (b2 1))) (max (b1 2) (b2 2))) (max (b1 3) (b2 3))) (max (b1 4) (b2 4))) - 1)), (4, .long (lN (es (jn b1 b2) 5))), (0, .long (en b1)), (2, .long (en b2))]) hx hb d_Pt_joined_94 hl (by decide) rfl (fun ls hl => ?_)
                refine lv_iload hx hb d_Pt_joined_96 (lv_at hl 0 rfl) ?_
                refine lv_if_eq (tgt := 113) hx hb d_Pt_joined_98 (by decide) (fun c_98 => ?_) (fun c_98 => ?_)
                · exact absurd c_98 (by decide)
                · refine lv_lload hx hb d_Pt_joined_101 (lv_at hl 3 rfl) ?_
                  refine lv_iconst (v := 5) hx hb d_Pt_joined_103 (by decide) ?_
                  refine lv_iload hx hb d_Pt_joined_104 (lv_at hl 1 rfl) ?_
                  refine ry_callS (n := 2) (As := [.int 5, .int (nI (max (b1 5) (b2 5)) - 1)]) (rest := [.long (lN (es (jn b1 b2) 5))]) ⟨hx, hb, hml, hown, htb⟩ (c_Pt_only l 5 (max (b1 5) (b2 5)) (by decide) (by omega)) (gS mw_353 mw_340 mw_12 mc_Pt_only) rfl rfl (by decide +kernel) ⟨Nat.le_of_ble_eq_true rfl, Nat.le_of_ble_eq_true rfl⟩ rfl hl.1 rfl (Nat.le_of_ble_eq_true rfl) d_Pt_joined_106 ⟨Nat.zero_le _, Nat.zero_le _⟩ (fun r_34 hr_34 => ?_)
                  subst hr_34
                  refine W.eq (g2 := F0 m 109 ls [.long (lN ((max (b1 5) (b2 5)) * 256 ^ 5)), .long (lN (es (jn b1 b2) 5))]) rfl ?_
                  refine lv_lor hx hb d_Pt_joined_109 ?_
                  refine lv_goto (tgt := 115) hx hb d_Pt_joined_110 (by decide) ?_
                  exact W.lret (v := ((lN (es (jn b1 b2) 5)) ||| (lN ((max (b1 5) (b2 5)) * 256 ^ 5)) : Int64)) hx hb hr (fun t ht hW => ⟨((lN (es (jn b1 b2) 5)) ||| (lN ((max (b1 5) (b2 5)) * 256 ^ 5)) : Int64), rfl, (or_jn5 hb1 hb2 (Or.inl ((m1_none (by omega)).mp c_77))), ht⟩) (fun _ h => by cases h) d_Pt_joined_115
              · refine lv_iload hx hb d_Pt_joined_80 (lv_at hl 0 rfl) ?_
                refine lv_iload hx hb d_Pt_joined_82 (lv_at hl 1 rfl) ?_
                refine lv_iconst (v := 1) hx hb d_Pt_joined_84 (by decide) ?_
                refine lv_iadd hx hb d_Pt_joined_85 ?_
                rw [m1_add]
                refine lv_icmp_le (tgt := 93) hx hb d_Pt_joined_86 (by decide) (fun c_86 => ?_) (fun c_86 => ?_)
                · refine lv_iconst (v := 0) hx hb d_Pt_joined_93 (by decide) ?_
                  refine lv_istore (lv' := [(8, .int 0), (7, .int (nI (max (b1 5) (b2 5)) - 1)), (6, .int (nI (max (max (max (max (max 0 (max (b1 0) (b2 0))) (max (b1 1) (b2 1))) (max (b1 2) (b2 2))) (max (b1 3) (b2 3))) (max (b1 4) (b2 4))) - 1)), (4, .long (lN (es (jn b1 b2) 5))), (0, .long (en b1)), (2, .long (en b2))]) hx hb d_Pt_joined_94 hl (by decide) rfl (fun ls hl => ?_)
                  refine lv_iload hx hb d_Pt_joined_96 (lv_at hl 0 rfl) ?_
                  refine lv_if_eq (tgt := 113) hx hb d_Pt_joined_98 (by decide) (fun c_98 => ?_) (fun c_98 => ?_)
                  · refine lv_lload hx hb d_Pt_joined_113 (lv_at hl 3 rfl) ?_
                    exact W.lret (v := (lN (es (jn b1 b2) 5))) hx hb hr (fun t ht hW => ⟨(lN (es (jn b1 b2) 5)), rfl, (en_jn0 (fun z => c_77 ((m1_none (by omega)).mpr z)) (Nat.not_lt.mpr ((m1_le_n (by omega) (by omega)).mp c_86))), ht⟩) (fun _ h => by cases h) d_Pt_joined_115
                  · exact absurd c_98 (by decide)
                · refine lv_iconst (v := 1) hx hb d_Pt_joined_89 (by decide) ?_
                  refine lv_goto (tgt := 94) hx hb d_Pt_joined_90 (by decide) ?_
                  refine lv_istore (lv' := [(8, .int 1), (7, .int (nI (max (b1 5) (b2 5)) - 1)), (6, .int (nI (max (max (max (max (max 0 (max (b1 0) (b2 0))) (max (b1 1) (b2 1))) (max (b1 2) (b2 2))) (max (b1 3) (b2 3))) (max (b1 4) (b2 4))) - 1)), (4, .long (lN (es (jn b1 b2) 5))), (0, .long (en b1)), (2, .long (en b2))]) hx hb d_Pt_joined_94 hl (by decide) rfl (fun ls hl => ?_)
                  refine lv_iload hx hb d_Pt_joined_96 (lv_at hl 0 rfl) ?_
                  refine lv_if_eq (tgt := 113) hx hb d_Pt_joined_98 (by decide) (fun c_98 => ?_) (fun c_98 => ?_)
                  · exact absurd c_98 (by decide)
                  · refine lv_lload hx hb d_Pt_joined_101 (lv_at hl 3 rfl) ?_
                    refine lv_iconst (v := 5) hx hb d_Pt_joined_103 (by decide) ?_
                    refine lv_iload hx hb d_Pt_joined_104 (lv_at hl 1 rfl) ?_
                    refine ry_callS (n := 2) (As := [.int 5, .int (nI (max (b1 5) (b2 5)) - 1)]) (rest := [.long (lN (es (jn b1 b2) 5))]) ⟨hx, hb, hml, hown, htb⟩ (c_Pt_only l 5 (max (b1 5) (b2 5)) (by decide) (by omega)) (gS mw_353 mw_340 mw_12 mc_Pt_only) rfl rfl (by decide +kernel) ⟨Nat.le_of_ble_eq_true rfl, Nat.le_of_ble_eq_true rfl⟩ rfl hl.1 rfl (Nat.le_of_ble_eq_true rfl) d_Pt_joined_106 ⟨Nat.zero_le _, Nat.zero_le _⟩ (fun r_35 hr_35 => ?_)
                    subst hr_35
                    refine W.eq (g2 := F0 m 109 ls [.long (lN ((max (b1 5) (b2 5)) * 256 ^ 5)), .long (lN (es (jn b1 b2) 5))]) rfl ?_
                    refine lv_lor hx hb d_Pt_joined_109 ?_
                    refine lv_goto (tgt := 115) hx hb d_Pt_joined_110 (by decide) ?_
                    exact W.lret (v := ((lN (es (jn b1 b2) 5)) ||| (lN ((max (b1 5) (b2 5)) * 256 ^ 5)) : Int64)) hx hb hr (fun t ht hW => ⟨((lN (es (jn b1 b2) 5)) ||| (lN ((max (b1 5) (b2 5)) * 256 ^ 5)) : Int64), rfl, (or_jn5 hb1 hb2 (Or.inr (Nat.lt_of_not_le fun z => c_86 ((m1_le_n (by omega) (by omega)).mpr z)))), ht⟩) (fun _ h => by cases h) d_Pt_joined_115
            · exact absurd (by decide) c_12_5

set_option maxHeartbeats 4000000 in
set_option maxRecDepth 100000 in
theorem c_Pt_lastHigher (l : Launch) (b1 b2 : Nat → Nat) (hb1 : byt b1) (hb2 : byt b2) : Met l y_Pt_lastHigher (cw_Pt_lastHigher :: tb) (rmH 2 0 0) (va_Pc [.long (en b1), .long (en b2)] (fun _ => True)) (ry_S ry_i (fun r => r = lh b1 b2)) 0 0 (fun _ => False) := by
  refine Met.ofW (cc := b_Pt_lastHigher) (maxL := 5) (ret := (some .int)) (by decide +kernel) rfl ?_
  intro p e s m args below meth c s₁ B hml0 hv
  have C0 := cx_of B hml0 rfl
  obtain ⟨hx, hb, hr, hml, hown, htb, hlocks⟩ := id C0
  obtain ⟨rfl, -⟩ := hv
  have hl := lv_entry ([.long (en b1), .long (en b2)]) (n := 5) (Nat.le_of_ble_eq_true rfl)
  rw [lg_entry_eq]
  generalize (lg_sl ([.long (en b1), .long (en b2)]) ++ List.replicate (5 - (lg_sl ([.long (en b1), .long (en b2)])).length) Slot.unset).toArray = ls at hl ⊢
  have hl : lv_has ls 5 [(0, .long (en b1)), (2, .long (en b2))] := hl
  obtain ⟨q0, q1, q2, q3, q4, q5⟩ := byt_all hb1
  obtain ⟨u0, u1, u2, u3, u4, u5⟩ := byt_all hb2
  refine lv_iconst (v := 4) hx hb d_Pt_lastHigher_0 (by decide) ?_
  refine lv_istore (lv' := [(4, .int 4), (0, .long (en b1)), (2, .long (en b2))]) hx hb d_Pt_lastHigher_1 hl (by decide) rfl (fun ls hl => ?_)
  refine lv_iload hx hb d_Pt_lastHigher_3 (lv_at hl 0 rfl) ?_
  refine lv_if_lt (tgt := 32) hx hb d_Pt_lastHigher_5 (by decide) (fun c_5 => ?_) (fun c_5 => ?_)
  · exact absurd c_5 (by decide)
  · refine lv_lload_n hx hb d_Pt_lastHigher_8 rfl (lv_at hl 1 rfl) ?_
    refine lv_iload hx hb d_Pt_lastHigher_9 (lv_at hl 0 rfl) ?_
    refine ry_callS (n := 2) (As := [.long (en b1), .int 4]) (rest := []) ⟨hx, hb, hml, hown, htb⟩ (c_Pt_at l b1 hb1 4 (by decide)) (gS mw_349 mw_350 mw_12 mc_Pt_at) rfl rfl (by decide +kernel) ⟨Nat.le_of_ble_eq_true rfl, Nat.le_of_ble_eq_true rfl⟩ rfl hl.1 rfl (Nat.le_of_ble_eq_true rfl) d_Pt_lastHigher_11 ⟨Nat.zero_le _, Nat.zero_le _⟩ (fun r_1 hr_1 => ?_)
    subst hr_1
    refine W.eq (g2 := F0 m 14 ls [.int (nI (b1 4) - 1)]) rfl ?_
    refine lv_lload_n hx hb d_Pt_lastHigher_14 rfl (lv_at hl 2 rfl) ?_
    refine lv_iload hx hb d_Pt_lastHigher_15 (lv_at hl 0 rfl) ?_
    refine ry_callS (n := 2) (As := [.long (en b2), .int 4]) (rest := [.int (nI (b1 4) - 1)]) ⟨hx, hb, hml, hown, htb⟩ (c_Pt_at l b2 hb2 4 (by decide)) (gS mw_349 mw_350 mw_12 mc_Pt_at) rfl rfl (by decide +kernel) ⟨Nat.le_of_ble_eq_true rfl, Nat.le_of_ble_eq_true rfl⟩ rfl hl.1 rfl (Nat.le_of_ble_eq_true rfl) d_Pt_lastHigher_17 ⟨Nat.zero_le _, Nat.zero_le _⟩ (fun r_2 hr_2 => ?_)
    subst hr_2
    refine W.eq (g2 := F0 m 20 ls [.int (nI (b2 4) - 1), .int (nI (b1 4) - 1)]) rfl ?_
    refine lv_icmp_le (tgt := 26) hx hb d_Pt_lastHigher_20 (by decide) (fun c_20 => ?_) (fun c_20 => ?_)
    · refine lv_iinc (v := 3) (lv' := [(4, .int 3), (0, .long (en b1)), (2, .long (en b2))]) hx hb d_Pt_lastHigher_26 hl (k := 0) rfl (by first | rfl | decide) (by decide) rfl (fun ls hl => ?_)
      refine lv_goto (tgt := 3) hx hb d_Pt_lastHigher_29 (by decide) ?_
      refine lv_iload hx hb d_Pt_lastHigher_3 (lv_at hl 0 rfl) ?_
      refine lv_if_lt (tgt := 32) hx hb d_Pt_lastHigher_5 (by decide) (fun c_5_1 => ?_) (fun c_5_1 => ?_)
      · exact absurd c_5_1 (by decide)
      · refine lv_lload_n hx hb d_Pt_lastHigher_8 rfl (lv_at hl 1 rfl) ?_
        refine lv_iload hx hb d_Pt_lastHigher_9 (lv_at hl 0 rfl) ?_
        refine ry_callS (n := 2) (As := [.long (en b1), .int 3]) (rest := []) ⟨hx, hb, hml, hown, htb⟩ (c_Pt_at l b1 hb1 3 (by decide)) (gS mw_349 mw_350 mw_12 mc_Pt_at) rfl rfl (by decide +kernel) ⟨Nat.le_of_ble_eq_true rfl, Nat.le_of_ble_eq_true rfl⟩ rfl hl.1 rfl (Nat.le_of_ble_eq_true rfl) d_Pt_lastHigher_11 ⟨Nat.zero_le _, Nat.zero_le _⟩ (fun r_3 hr_3 => ?_)
        subst hr_3
        refine W.eq (g2 := F0 m 14 ls [.int (nI (b1 3) - 1)]) rfl ?_
        refine lv_lload_n hx hb d_Pt_lastHigher_14 rfl (lv_at hl 2 rfl) ?_
        refine lv_iload hx hb d_Pt_lastHigher_15 (lv_at hl 0 rfl) ?_
        refine ry_callS (n := 2) (As := [.long (en b2), .int 3]) (rest := [.int (nI (b1 3) - 1)]) ⟨hx, hb, hml, hown, htb⟩ (c_Pt_at l b2 hb2 3 (by decide)) (gS mw_349 mw_350 mw_12 mc_Pt_at) rfl rfl (by decide +kernel) ⟨Nat.le_of_ble_eq_true rfl, Nat.le_of_ble_eq_true rfl⟩ rfl hl.1 rfl (Nat.le_of_ble_eq_true rfl) d_Pt_lastHigher_17 ⟨Nat.zero_le _, Nat.zero_le _⟩ (fun r_4 hr_4 => ?_)
        subst hr_4
        refine W.eq (g2 := F0 m 20 ls [.int (nI (b2 3) - 1), .int (nI (b1 3) - 1)]) rfl ?_
        refine lv_icmp_le (tgt := 26) hx hb d_Pt_lastHigher_20 (by decide) (fun c_20_1 => ?_) (fun c_20_1 => ?_)
        · refine lv_iinc (v := 2) (lv' := [(4, .int 2), (0, .long (en b1)), (2, .long (en b2))]) hx hb d_Pt_lastHigher_26 hl (k := 0) rfl (by first | rfl | decide) (by decide) rfl (fun ls hl => ?_)
          refine lv_goto (tgt := 3) hx hb d_Pt_lastHigher_29 (by decide) ?_
          refine lv_iload hx hb d_Pt_lastHigher_3 (lv_at hl 0 rfl) ?_
          refine lv_if_lt (tgt := 32) hx hb d_Pt_lastHigher_5 (by decide) (fun c_5_2 => ?_) (fun c_5_2 => ?_)
          · exact absurd c_5_2 (by decide)
          · refine lv_lload_n hx hb d_Pt_lastHigher_8 rfl (lv_at hl 1 rfl) ?_
            refine lv_iload hx hb d_Pt_lastHigher_9 (lv_at hl 0 rfl) ?_
            refine ry_callS (n := 2) (As := [.long (en b1), .int 2]) (rest := []) ⟨hx, hb, hml, hown, htb⟩ (c_Pt_at l b1 hb1 2 (by decide)) (gS mw_349 mw_350 mw_12 mc_Pt_at) rfl rfl (by decide +kernel) ⟨Nat.le_of_ble_eq_true rfl, Nat.le_of_ble_eq_true rfl⟩ rfl hl.1 rfl (Nat.le_of_ble_eq_true rfl) d_Pt_lastHigher_11 ⟨Nat.zero_le _, Nat.zero_le _⟩ (fun r_5 hr_5 => ?_)
            subst hr_5
            refine W.eq (g2 := F0 m 14 ls [.int (nI (b1 2) - 1)]) rfl ?_
            refine lv_lload_n hx hb d_Pt_lastHigher_14 rfl (lv_at hl 2 rfl) ?_
            refine lv_iload hx hb d_Pt_lastHigher_15 (lv_at hl 0 rfl) ?_
            refine ry_callS (n := 2) (As := [.long (en b2), .int 2]) (rest := [.int (nI (b1 2) - 1)]) ⟨hx, hb, hml, hown, htb⟩ (c_Pt_at l b2 hb2 2 (by decide)) (gS mw_349 mw_350 mw_12 mc_Pt_at) rfl rfl (by decide +kernel) ⟨Nat.le_of_ble_eq_true rfl, Nat.le_of_ble_eq_true rfl⟩ rfl hl.1 rfl (Nat.le_of_ble_eq_true rfl) d_Pt_lastHigher_17 ⟨Nat.zero_le _, Nat.zero_le _⟩ (fun r_6 hr_6 => ?_)
            subst hr_6
            refine W.eq (g2 := F0 m 20 ls [.int (nI (b2 2) - 1), .int (nI (b1 2) - 1)]) rfl ?_
            refine lv_icmp_le (tgt := 26) hx hb d_Pt_lastHigher_20 (by decide) (fun c_20_2 => ?_) (fun c_20_2 => ?_)
            · refine lv_iinc (v := 1) (lv' := [(4, .int 1), (0, .long (en b1)), (2, .long (en b2))]) hx hb d_Pt_lastHigher_26 hl (k := 0) rfl (by first | rfl | decide) (by decide) rfl (fun ls hl => ?_)
              refine lv_goto (tgt := 3) hx hb d_Pt_lastHigher_29 (by decide) ?_
              refine lv_iload hx hb d_Pt_lastHigher_3 (lv_at hl 0 rfl) ?_
              refine lv_if_lt (tgt := 32) hx hb d_Pt_lastHigher_5 (by decide) (fun c_5_3 => ?_) (fun c_5_3 => ?_)
              · exact absurd c_5_3 (by decide)
              · refine lv_lload_n hx hb d_Pt_lastHigher_8 rfl (lv_at hl 1 rfl) ?_
                refine lv_iload hx hb d_Pt_lastHigher_9 (lv_at hl 0 rfl) ?_
                refine ry_callS (n := 2) (As := [.long (en b1), .int 1]) (rest := []) ⟨hx, hb, hml, hown, htb⟩ (c_Pt_at l b1 hb1 1 (by decide)) (gS mw_349 mw_350 mw_12 mc_Pt_at) rfl rfl (by decide +kernel) ⟨Nat.le_of_ble_eq_true rfl, Nat.le_of_ble_eq_true rfl⟩ rfl hl.1 rfl (Nat.le_of_ble_eq_true rfl) d_Pt_lastHigher_11 ⟨Nat.zero_le _, Nat.zero_le _⟩ (fun r_7 hr_7 => ?_)
                subst hr_7
                refine W.eq (g2 := F0 m 14 ls [.int (nI (b1 1) - 1)]) rfl ?_
                refine lv_lload_n hx hb d_Pt_lastHigher_14 rfl (lv_at hl 2 rfl) ?_
                refine lv_iload hx hb d_Pt_lastHigher_15 (lv_at hl 0 rfl) ?_
                refine ry_callS (n := 2) (As := [.long (en b2), .int 1]) (rest := [.int (nI (b1 1) - 1)]) ⟨hx, hb, hml, hown, htb⟩ (c_Pt_at l b2 hb2 1 (by decide)) (gS mw_349 mw_350 mw_12 mc_Pt_at) rfl rfl (by decide +kernel) ⟨Nat.le_of_ble_eq_true rfl, Nat.le_of_ble_eq_true rfl⟩ rfl hl.1 rfl (Nat.le_of_ble_eq_true rfl) d_Pt_lastHigher_17 ⟨Nat.zero_le _, Nat.zero_le _⟩ (fun r_8 hr_8 => ?_)
                subst hr_8
                refine W.eq (g2 := F0 m 20 ls [.int (nI (b2 1) - 1), .int (nI (b1 1) - 1)]) rfl ?_
                refine lv_icmp_le (tgt := 26) hx hb d_Pt_lastHigher_20 (by decide) (fun c_20_3 => ?_) (fun c_20_3 => ?_)
                · refine lv_iinc (v := 0) (lv' := [(4, .int 0), (0, .long (en b1)), (2, .long (en b2))]) hx hb d_Pt_lastHigher_26 hl (k := 0) rfl (by first | rfl | decide) (by decide) rfl (fun ls hl => ?_)
                  refine lv_goto (tgt := 3) hx hb d_Pt_lastHigher_29 (by decide) ?_
                  refine lv_iload hx hb d_Pt_lastHigher_3 (lv_at hl 0 rfl) ?_
                  refine lv_if_lt (tgt := 32) hx hb d_Pt_lastHigher_5 (by decide) (fun c_5_4 => ?_) (fun c_5_4 => ?_)
                  · exact absurd c_5_4 (by decide)
                  · refine lv_lload_n hx hb d_Pt_lastHigher_8 rfl (lv_at hl 1 rfl) ?_
                    refine lv_iload hx hb d_Pt_lastHigher_9 (lv_at hl 0 rfl) ?_
                    refine ry_callS (n := 2) (As := [.long (en b1), .int 0]) (rest := []) ⟨hx, hb, hml, hown, htb⟩ (c_Pt_at l b1 hb1 0 (by decide)) (gS mw_349 mw_350 mw_12 mc_Pt_at) rfl rfl (by decide +kernel) ⟨Nat.le_of_ble_eq_true rfl, Nat.le_of_ble_eq_true rfl⟩ rfl hl.1 rfl (Nat.le_of_ble_eq_true rfl) d_Pt_lastHigher_11 ⟨Nat.zero_le _, Nat.zero_le _⟩ (fun r_9 hr_9 => ?_)
                    subst hr_9
                    refine W.eq (g2 := F0 m 14 ls [.int (nI (b1 0) - 1)]) rfl ?_
                    refine lv_lload_n hx hb d_Pt_lastHigher_14 rfl (lv_at hl 2 rfl) ?_
                    refine lv_iload hx hb d_Pt_lastHigher_15 (lv_at hl 0 rfl) ?_
                    refine ry_callS (n := 2) (As := [.long (en b2), .int 0]) (rest := [.int (nI (b1 0) - 1)]) ⟨hx, hb, hml, hown, htb⟩ (c_Pt_at l b2 hb2 0 (by decide)) (gS mw_349 mw_350 mw_12 mc_Pt_at) rfl rfl (by decide +kernel) ⟨Nat.le_of_ble_eq_true rfl, Nat.le_of_ble_eq_true rfl⟩ rfl hl.1 rfl (Nat.le_of_ble_eq_true rfl) d_Pt_lastHigher_17 ⟨Nat.zero_le _, Nat.zero_le _⟩ (fun r_10 hr_10 => ?_)
                    subst hr_10
                    refine W.eq (g2 := F0 m 20 ls [.int (nI (b2 0) - 1), .int (nI (b1 0) - 1)]) rfl ?_
                    refine lv_icmp_le (tgt := 26) hx hb d_Pt_lastHigher_20 (by decide) (fun c_20_4 => ?_) (fun c_20_4 => ?_)
                    · refine lv_iinc (v := (-1)) (lv' := [(4, .int (-1)), (0, .long (en b1)), (2, .long (en b2))]) hx hb d_Pt_lastHigher_26 hl (k := 0) rfl (by first | rfl | decide) (by decide) rfl (fun ls hl => ?_)
                      refine lv_goto (tgt := 3) hx hb d_Pt_lastHigher_29 (by decide) ?_
                      refine lv_iload hx hb d_Pt_lastHigher_3 (lv_at hl 0 rfl) ?_
                      refine lv_if_lt (tgt := 32) hx hb d_Pt_lastHigher_5 (by decide) (fun c_5_5 => ?_) (fun c_5_5 => ?_)
                      · refine lv_iconst (v := (-1)) hx hb d_Pt_lastHigher_32 (by decide) ?_
                        exact W.iret (v := (-1)) hx hb hr (fun t ht hW => ⟨(-1), rfl, (by rw [lh, if_neg (fun z => absurd c_20 (fun y => absurd ((m1_le (by omega) (by omega)).mp y) (by omega))), if_neg (fun z => absurd c_20_1 (fun y => absurd ((m1_le (by omega) (by omega)).mp y) (by omega))), if_neg (fun z => absurd c_20_2 (fun y => absurd ((m1_le (by omega) (by omega)).mp y) (by omega))), if_neg (fun z => absurd c_20_3 (fun y => absurd ((m1_le (by omega) (by omega)).mp y) (by omega))), if_neg (fun z => absurd c_20_4 (fun y => absurd ((m1_le (by omega) (by omega)).mp y) (by omega)))]), ht⟩) (fun _ h => by cases h) d_Pt_lastHigher_33
                      · exact absurd (by decide) c_5_5
                    · refine lv_iload hx hb d_Pt_lastHigher_23 (lv_at hl 0 rfl) ?_
                      exact W.iret (v := 0) hx hb hr (fun t ht hW => ⟨0, rfl, (by rw [lh, if_neg (fun z => absurd c_20 (fun y => absurd ((m1_le (by omega) (by omega)).mp y) (by omega))), if_neg (fun z => absurd c_20_1 (fun y => absurd ((m1_le (by omega) (by omega)).mp y) (by omega))), if_neg (fun z => absurd c_20_2 (fun y => absurd ((m1_le (by omega) (by omega)).mp y) (by omega))), if_neg (fun z => absurd c_20_3 (fun y => absurd ((m1_le (by omega) (by omega)).mp y) (by omega))), if_pos (Nat.lt_of_not_le fun z => c_20_4 ((m1_le (by omega) (by omega)).mpr z))]), ht⟩) (fun _ h => by cases h) d_Pt_lastHigher_25
                · refine lv_iload hx hb d_Pt_lastHigher_23 (lv_at hl 0 rfl) ?_
                  exact W.iret (v := 1) hx hb hr (fun t ht hW => ⟨1, rfl, (by rw [lh, if_neg (fun z => absurd c_20 (fun y => absurd ((m1_le (by omega) (by omega)).mp y) (by omega))), if_neg (fun z => absurd c_20_1 (fun y => absurd ((m1_le (by omega) (by omega)).mp y) (by omega))), if_neg (fun z => absurd c_20_2 (fun y => absurd ((m1_le (by omega) (by omega)).mp y) (by omega))), if_pos (Nat.lt_of_not_le fun z => c_20_3 ((m1_le (by omega) (by omega)).mpr z))]), ht⟩) (fun _ h => by cases h) d_Pt_lastHigher_25
            · refine lv_iload hx hb d_Pt_lastHigher_23 (lv_at hl 0 rfl) ?_
              exact W.iret (v := 2) hx hb hr (fun t ht hW => ⟨2, rfl, (by rw [lh, if_neg (fun z => absurd c_20 (fun y => absurd ((m1_le (by omega) (by omega)).mp y) (by omega))), if_neg (fun z => absurd c_20_1 (fun y => absurd ((m1_le (by omega) (by omega)).mp y) (by omega))), if_pos (Nat.lt_of_not_le fun z => c_20_2 ((m1_le (by omega) (by omega)).mpr z))]), ht⟩) (fun _ h => by cases h) d_Pt_lastHigher_25
        · refine lv_iload hx hb d_Pt_lastHigher_23 (lv_at hl 0 rfl) ?_
          exact W.iret (v := 3) hx hb hr (fun t ht hW => ⟨3, rfl, (by rw [lh, if_neg (fun z => absurd c_20 (fun y => absurd ((m1_le (by omega) (by omega)).mp y) (by omega))), if_pos (Nat.lt_of_not_le fun z => c_20_1 ((m1_le (by omega) (by omega)).mpr z))]), ht⟩) (fun _ h => by cases h) d_Pt_lastHigher_25
    · refine lv_iload hx hb d_Pt_lastHigher_23 (lv_at hl 0 rfl) ?_
      exact W.iret (v := 4) hx hb hr (fun t ht hW => ⟨4, rfl, (by rw [lh, if_pos (Nat.lt_of_not_le fun z => c_20 ((m1_le (by omega) (by omega)).mpr z))]), ht⟩) (fun _ h => by cases h) d_Pt_lastHigher_25

set_option maxHeartbeats 4000000 in
set_option maxRecDepth 100000 in
theorem c_Pt_areAtMost (l : Launch) (b1 b2 : Nat → Nat) (hb1 : byt b1) (hb2 : byt b2) : Met l y_Pt_areAtMost (cw_Pt_areAtMost :: tb) (rmH 3 0 0) (va_Pc [.long (en b1), .long (en b2)] (fun _ => True)) (ry_S ry_i (fun r => r = if lh b1 b2 = -1 ∧ b1 5 ≤ vo b2 + 1 then 1 else 0)) 0 0 (fun _ => False) := by
  refine Met.ofW (cc := b_Pt_areAtMost) (maxL := 4) (ret := (some .boolean)) (by decide +kernel) rfl ?_
  intro p e s m args below meth c s₁ B hml0 hv
  have C0 := cx_of B hml0 rfl
  obtain ⟨hx, hb, hr, hml, hown, htb, hlocks⟩ := id C0
  obtain ⟨rfl, -⟩ := hv
  have hl := lv_entry ([.long (en b1), .long (en b2)]) (n := 4) (Nat.le_of_ble_eq_true rfl)
  rw [lg_entry_eq]
  generalize (lg_sl ([.long (en b1), .long (en b2)]) ++ List.replicate (4 - (lg_sl ([.long (en b1), .long (en b2)])).length) Slot.unset).toArray = ls at hl ⊢
  have hl : lv_has ls 4 [(0, .long (en b1)), (2, .long (en b2))] := hl
  obtain ⟨q0, q1, q2, q3, q4, q5⟩ := byt_all hb1
  obtain ⟨u0, u1, u2, u3, u4, u5⟩ := byt_all hb2
  have hv1 := vo_lt hb1
  have hv2 := vo_lt hb2
  refine lv_lload_n hx hb d_Pt_areAtMost_0 rfl (lv_at hl 0 rfl) ?_
  refine lv_lload_n hx hb d_Pt_areAtMost_1 rfl (lv_at hl 1 rfl) ?_
  refine ry_callS (n := 2) (As := [.long (en b1), .long (en b2)]) (rest := []) ⟨hx, hb, hml, hown, htb⟩ (c_Pt_lastHigher l b1 b2 hb1 hb2) (gS mw_465 mw_466 mw_12 mc_Pt_lastHigher) rfl rfl (by decide +kernel) ⟨Nat.le_of_ble_eq_true rfl, Nat.le_of_ble_eq_true rfl⟩ rfl hl.1 rfl (Nat.le_of_ble_eq_true rfl) d_Pt_areAtMost_2 ⟨Nat.zero_le _, Nat.zero_le _⟩ (fun r_1 hr_1 => ?_)
  subst hr_1
  refine W.eq (g2 := F0 m 5 ls [.int (lh b1 b2)]) rfl ?_
  refine lv_iconst (v := (-1)) hx hb d_Pt_areAtMost_5 (by decide) ?_
  refine lv_icmp_ne (tgt := 25) hx hb d_Pt_areAtMost_6 (by decide) (fun c_6 => ?_) (fun c_6 => ?_)
  · refine lv_iconst (v := 0) hx hb d_Pt_areAtMost_25 (by decide) ?_
    exact W.zret (v := 0) hx hb hr rfl (fun t ht hW => ⟨0, rfl, (by rw [if_neg (fun z => c_6 z.1)]), ht⟩) (fun _ h => by cases h) d_Pt_areAtMost_26
  · refine lv_lload_n hx hb d_Pt_areAtMost_9 rfl (lv_at hl 0 rfl) ?_
    refine lv_iconst (v := 5) hx hb d_Pt_areAtMost_10 (by decide) ?_
    refine ry_callS (n := 2) (As := [.long (en b1), .int 5]) (rest := []) ⟨hx, hb, hml, hown, htb⟩ (c_Pt_at l b1 hb1 5 (by decide)) (gS mw_349 mw_350 mw_12 mc_Pt_at) rfl rfl (by decide +kernel) ⟨Nat.le_of_ble_eq_true rfl, Nat.le_of_ble_eq_true rfl⟩ rfl hl.1 rfl (Nat.le_of_ble_eq_true rfl) d_Pt_areAtMost_11 ⟨Nat.zero_le _, Nat.zero_le _⟩ (fun r_2 hr_2 => ?_)
    subst hr_2
    refine W.eq (g2 := F0 m 14 ls [.int (nI (b1 5) - 1)]) rfl ?_
    refine lv_lload_n hx hb d_Pt_areAtMost_14 rfl (lv_at hl 1 rfl) ?_
    refine ry_callS (n := 1) (As := [.long (en b2)]) (rest := [.int (nI (b1 5) - 1)]) ⟨hx, hb, hml, hown, htb⟩ (c_Pt_valueAtOnes l b2 hb2) (gS mw_468 mw_469 mw_12 mc_Pt_valueAtOnes) rfl rfl (by decide +kernel) ⟨Nat.le_of_ble_eq_true rfl, Nat.le_of_ble_eq_true rfl⟩ rfl hl.1 rfl (Nat.le_of_ble_eq_true rfl) d_Pt_areAtMost_15 ⟨Nat.zero_le _, Nat.zero_le _⟩ (fun r_3 hr_3 => ?_)
    subst hr_3
    refine W.eq (g2 := F0 m 18 ls [.int (nI (vo b2)), .int (nI (b1 5) - 1)]) rfl ?_
    refine lv_icmp_gt (tgt := 25) hx hb d_Pt_areAtMost_18 (by decide) (fun c_18 => ?_) (fun c_18 => ?_)
    · refine lv_iconst (v := 0) hx hb d_Pt_areAtMost_25 (by decide) ?_
      exact W.zret (v := 0) hx hb hr rfl (fun t ht hW => ⟨0, rfl, (by rw [if_neg (fun z => absurd ((n_lt_m1 (by omega) (by omega)).mp c_18) (by omega))]), ht⟩) (fun _ h => by cases h) d_Pt_areAtMost_26
    · refine lv_iconst (v := 1) hx hb d_Pt_areAtMost_21 (by decide) ?_
      refine lv_goto (tgt := 26) hx hb d_Pt_areAtMost_22 (by decide) ?_
      exact W.zret (v := 1) hx hb hr rfl (fun t ht hW => ⟨1, rfl, (by rw [if_pos ⟨c_6, Nat.le_of_not_lt fun z => c_18 ((n_lt_m1 (by omega) (by omega)).mpr z)⟩]), ht⟩) (fun _ h => by cases h) d_Pt_areAtMost_26

set_option maxHeartbeats 4000000 in
set_option maxRecDepth 100000 in
theorem c_Pt_onesOf (l : Launch) (g : Nat) (hg : g < 32) : Met l y_Pt_onesOf (cw_Pt_onesOf :: tb) (rmH 1 0 0) (va_Pc [.int (nI g)] (fun _ => True)) (ry_S ry_l (fun r => r = lN (on g))) 0 0 (fun _ => False) := by
  refine Met.ofW (cc := b_Pt_onesOf) (maxL := 4) (ret := (some .long)) (by decide +kernel) rfl ?_
  intro p e s m args below meth c s₁ B hml0 hv
  have C0 := cx_of B hml0 rfl
  obtain ⟨hx, hb, hr, hml, hown, htb, hlocks⟩ := id C0
  obtain ⟨rfl, -⟩ := hv
  have hl := lv_entry ([.int (nI g)]) (n := 4) (Nat.le_of_ble_eq_true rfl)
  rw [lg_entry_eq]
  generalize (lg_sl ([.int (nI g)]) ++ List.replicate (4 - (lg_sl ([.int (nI g)])).length) Slot.unset).toArray = ls at hl ⊢
  have hl : lv_has ls 4 [(0, .int (nI g))] := hl
  refine lv_lconst (v := 0) hx hb d_Pt_onesOf_0 (by decide) ?_
  refine lv_lstore_n (lv' := [(1, .long (0 : Int64)), (0, .int (nI g))]) hx hb d_Pt_onesOf_1 rfl hl (by decide) rfl (fun ls hl => ?_)
  refine lv_iconst (v := 0) hx hb d_Pt_onesOf_2 (by decide) ?_
  refine lv_istore_n (lv' := [(3, .int 0), (1, .long (0 : Int64)), (0, .int (nI g))]) hx hb d_Pt_onesOf_3 rfl hl (by decide) rfl (fun ls hl => ?_)
  refine lv_iload_n hx hb d_Pt_onesOf_4 rfl (lv_at hl 0 rfl) ?_
  refine lv_iconst (v := 5) hx hb d_Pt_onesOf_5 (by decide) ?_
  refine lv_icmp_ge (tgt := 29) hx hb d_Pt_onesOf_6 (by decide) (fun c_6 => ?_) (fun c_6 => ?_)
  · exact absurd c_6 (by decide)
  · refine lv_lload_n hx hb d_Pt_onesOf_9 rfl (lv_at hl 1 rfl) ?_
    refine lv_iload_n hx hb d_Pt_onesOf_10 rfl (lv_at hl 2 rfl) ?_
    refine lv_iload_n hx hb d_Pt_onesOf_11 rfl (lv_at hl 0 rfl) ?_
    refine lv_ishr hx hb d_Pt_onesOf_12 ?_
    refine lv_iconst (v := 1) hx hb d_Pt_onesOf_13 (by decide) ?_
    refine lv_iand hx hb d_Pt_onesOf_14 ?_
    refine lv_i2l hx hb d_Pt_onesOf_15 rfl ?_
    refine lv_iload_n hx hb d_Pt_onesOf_16 rfl (lv_at hl 0 rfl) ?_
    refine lv_bipush (v := 12) hx hb d_Pt_onesOf_17 (by decide) ?_
    refine lv_imul hx hb d_Pt_onesOf_19 ?_
    refine lv_lshl hx hb d_Pt_onesOf_20 rfl ?_
    refine lv_lor hx hb d_Pt_onesOf_21 ?_
    refine lv_lstore_n (lv' := [(1, .long ((0 : Int64) ||| (((((nI g) >>> (0 &&& 31)) &&& 1) : Int32).toInt64 <<< (((0 * 12) : Int32).toInt64 &&& 63)) : Int64)), (3, .int 0), (0, .int (nI g))]) hx hb d_Pt_onesOf_22 rfl hl (by decide) rfl (fun ls hl => ?_)
    refine lv_iinc (v := 1) (lv' := [(3, .int 1), (1, .long ((0 : Int64) ||| (((((nI g) >>> (0 &&& 31)) &&& 1) : Int32).toInt64 <<< (((0 * 12) : Int32).toInt64 &&& 63)) : Int64)), (0, .int (nI g))]) hx hb d_Pt_onesOf_23 hl (k := 1) rfl (by first | rfl | decide) (by decide) rfl (fun ls hl => ?_)
    refine lv_goto (tgt := 4) hx hb d_Pt_onesOf_26 (by decide) ?_
    refine lv_iload_n hx hb d_Pt_onesOf_4 rfl (lv_at hl 0 rfl) ?_
    refine lv_iconst (v := 5) hx hb d_Pt_onesOf_5 (by decide) ?_
    refine lv_icmp_ge (tgt := 29) hx hb d_Pt_onesOf_6 (by decide) (fun c_6_1 => ?_) (fun c_6_1 => ?_)
    · exact absurd c_6_1 (by decide)
    · refine lv_lload_n hx hb d_Pt_onesOf_9 rfl (lv_at hl 1 rfl) ?_
      refine lv_iload_n hx hb d_Pt_onesOf_10 rfl (lv_at hl 2 rfl) ?_
      refine lv_iload_n hx hb d_Pt_onesOf_11 rfl (lv_at hl 0 rfl) ?_
      refine lv_ishr hx hb d_Pt_onesOf_12 ?_
      refine lv_iconst (v := 1) hx hb d_Pt_onesOf_13 (by decide) ?_
      refine lv_iand hx hb d_Pt_onesOf_14 ?_
      refine lv_i2l hx hb d_Pt_onesOf_15 rfl ?_
      refine lv_iload_n hx hb d_Pt_onesOf_16 rfl (lv_at hl 0 rfl) ?_
      refine lv_bipush (v := 12) hx hb d_Pt_onesOf_17 (by decide) ?_
      refine lv_imul hx hb d_Pt_onesOf_19 ?_
      refine lv_lshl hx hb d_Pt_onesOf_20 rfl ?_
      refine lv_lor hx hb d_Pt_onesOf_21 ?_
      refine lv_lstore_n (lv' := [(1, .long (((0 : Int64) ||| (((((nI g) >>> (0 &&& 31)) &&& 1) : Int32).toInt64 <<< (((0 * 12) : Int32).toInt64 &&& 63)) : Int64) ||| (((((nI g) >>> (1 &&& 31)) &&& 1) : Int32).toInt64 <<< (((1 * 12) : Int32).toInt64 &&& 63)) : Int64)), (3, .int 1), (0, .int (nI g))]) hx hb d_Pt_onesOf_22 rfl hl (by decide) rfl (fun ls hl => ?_)
      refine lv_iinc (v := 2) (lv' := [(3, .int 2), (1, .long (((0 : Int64) ||| (((((nI g) >>> (0 &&& 31)) &&& 1) : Int32).toInt64 <<< (((0 * 12) : Int32).toInt64 &&& 63)) : Int64) ||| (((((nI g) >>> (1 &&& 31)) &&& 1) : Int32).toInt64 <<< (((1 * 12) : Int32).toInt64 &&& 63)) : Int64)), (0, .int (nI g))]) hx hb d_Pt_onesOf_23 hl (k := 1) rfl (by first | rfl | decide) (by decide) rfl (fun ls hl => ?_)
      refine lv_goto (tgt := 4) hx hb d_Pt_onesOf_26 (by decide) ?_
      refine lv_iload_n hx hb d_Pt_onesOf_4 rfl (lv_at hl 0 rfl) ?_
      refine lv_iconst (v := 5) hx hb d_Pt_onesOf_5 (by decide) ?_
      refine lv_icmp_ge (tgt := 29) hx hb d_Pt_onesOf_6 (by decide) (fun c_6_2 => ?_) (fun c_6_2 => ?_)
      · exact absurd c_6_2 (by decide)
      · refine lv_lload_n hx hb d_Pt_onesOf_9 rfl (lv_at hl 1 rfl) ?_
        refine lv_iload_n hx hb d_Pt_onesOf_10 rfl (lv_at hl 2 rfl) ?_
        refine lv_iload_n hx hb d_Pt_onesOf_11 rfl (lv_at hl 0 rfl) ?_
        refine lv_ishr hx hb d_Pt_onesOf_12 ?_
        refine lv_iconst (v := 1) hx hb d_Pt_onesOf_13 (by decide) ?_
        refine lv_iand hx hb d_Pt_onesOf_14 ?_
        refine lv_i2l hx hb d_Pt_onesOf_15 rfl ?_
        refine lv_iload_n hx hb d_Pt_onesOf_16 rfl (lv_at hl 0 rfl) ?_
        refine lv_bipush (v := 12) hx hb d_Pt_onesOf_17 (by decide) ?_
        refine lv_imul hx hb d_Pt_onesOf_19 ?_
        refine lv_lshl hx hb d_Pt_onesOf_20 rfl ?_
        refine lv_lor hx hb d_Pt_onesOf_21 ?_
        refine lv_lstore_n (lv' := [(1, .long ((((0 : Int64) ||| (((((nI g) >>> (0 &&& 31)) &&& 1) : Int32).toInt64 <<< (((0 * 12) : Int32).toInt64 &&& 63)) : Int64) ||| (((((nI g) >>> (1 &&& 31)) &&& 1) : Int32).toInt64 <<< (((1 * 12) : Int32).toInt64 &&& 63)) : Int64) ||| (((((nI g) >>> (2 &&& 31)) &&& 1) : Int32).toInt64 <<< (((2 * 12) : Int32).toInt64 &&& 63)) : Int64)), (3, .int 2), (0, .int (nI g))]) hx hb d_Pt_onesOf_22 rfl hl (by decide) rfl (fun ls hl => ?_)
        refine lv_iinc (v := 3) (lv' := [(3, .int 3), (1, .long ((((0 : Int64) ||| (((((nI g) >>> (0 &&& 31)) &&& 1) : Int32).toInt64 <<< (((0 * 12) : Int32).toInt64 &&& 63)) : Int64) ||| (((((nI g) >>> (1 &&& 31)) &&& 1) : Int32).toInt64 <<< (((1 * 12) : Int32).toInt64 &&& 63)) : Int64) ||| (((((nI g) >>> (2 &&& 31)) &&& 1) : Int32).toInt64 <<< (((2 * 12) : Int32).toInt64 &&& 63)) : Int64)), (0, .int (nI g))]) hx hb d_Pt_onesOf_23 hl (k := 1) rfl (by first | rfl | decide) (by decide) rfl (fun ls hl => ?_)
        refine lv_goto (tgt := 4) hx hb d_Pt_onesOf_26 (by decide) ?_
        refine lv_iload_n hx hb d_Pt_onesOf_4 rfl (lv_at hl 0 rfl) ?_
        refine lv_iconst (v := 5) hx hb d_Pt_onesOf_5 (by decide) ?_
        refine lv_icmp_ge (tgt := 29) hx hb d_Pt_onesOf_6 (by decide) (fun c_6_3 => ?_) (fun c_6_3 => ?_)
        · exact absurd c_6_3 (by decide)
        · refine lv_lload_n hx hb d_Pt_onesOf_9 rfl (lv_at hl 1 rfl) ?_
          refine lv_iload_n hx hb d_Pt_onesOf_10 rfl (lv_at hl 2 rfl) ?_
          refine lv_iload_n hx hb d_Pt_onesOf_11 rfl (lv_at hl 0 rfl) ?_
          refine lv_ishr hx hb d_Pt_onesOf_12 ?_
          refine lv_iconst (v := 1) hx hb d_Pt_onesOf_13 (by decide) ?_
          refine lv_iand hx hb d_Pt_onesOf_14 ?_
          refine lv_i2l hx hb d_Pt_onesOf_15 rfl ?_
          refine lv_iload_n hx hb d_Pt_onesOf_16 rfl (lv_at hl 0 rfl) ?_
          refine lv_bipush (v := 12) hx hb d_Pt_onesOf_17 (by decide) ?_
          refine lv_imul hx hb d_Pt_onesOf_19 ?_
          refine lv_lshl hx hb d_Pt_onesOf_20 rfl ?_
          refine lv_lor hx hb d_Pt_onesOf_21 ?_
          refine lv_lstore_n (lv' := [(1, .long (((((0 : Int64) ||| (((((nI g) >>> (0 &&& 31)) &&& 1) : Int32).toInt64 <<< (((0 * 12) : Int32).toInt64 &&& 63)) : Int64) ||| (((((nI g) >>> (1 &&& 31)) &&& 1) : Int32).toInt64 <<< (((1 * 12) : Int32).toInt64 &&& 63)) : Int64) ||| (((((nI g) >>> (2 &&& 31)) &&& 1) : Int32).toInt64 <<< (((2 * 12) : Int32).toInt64 &&& 63)) : Int64) ||| (((((nI g) >>> (3 &&& 31)) &&& 1) : Int32).toInt64 <<< (((3 * 12) : Int32).toInt64 &&& 63)) : Int64)), (3, .int 3), (0, .int (nI g))]) hx hb d_Pt_onesOf_22 rfl hl (by decide) rfl (fun ls hl => ?_)
          refine lv_iinc (v := 4) (lv' := [(3, .int 4), (1, .long (((((0 : Int64) ||| (((((nI g) >>> (0 &&& 31)) &&& 1) : Int32).toInt64 <<< (((0 * 12) : Int32).toInt64 &&& 63)) : Int64) ||| (((((nI g) >>> (1 &&& 31)) &&& 1) : Int32).toInt64 <<< (((1 * 12) : Int32).toInt64 &&& 63)) : Int64) ||| (((((nI g) >>> (2 &&& 31)) &&& 1) : Int32).toInt64 <<< (((2 * 12) : Int32).toInt64 &&& 63)) : Int64) ||| (((((nI g) >>> (3 &&& 31)) &&& 1) : Int32).toInt64 <<< (((3 * 12) : Int32).toInt64 &&& 63)) : Int64)), (0, .int (nI g))]) hx hb d_Pt_onesOf_23 hl (k := 1) rfl (by first | rfl | decide) (by decide) rfl (fun ls hl => ?_)
          refine lv_goto (tgt := 4) hx hb d_Pt_onesOf_26 (by decide) ?_
          refine lv_iload_n hx hb d_Pt_onesOf_4 rfl (lv_at hl 0 rfl) ?_
          refine lv_iconst (v := 5) hx hb d_Pt_onesOf_5 (by decide) ?_
          refine lv_icmp_ge (tgt := 29) hx hb d_Pt_onesOf_6 (by decide) (fun c_6_4 => ?_) (fun c_6_4 => ?_)
          · exact absurd c_6_4 (by decide)
          · refine lv_lload_n hx hb d_Pt_onesOf_9 rfl (lv_at hl 1 rfl) ?_
            refine lv_iload_n hx hb d_Pt_onesOf_10 rfl (lv_at hl 2 rfl) ?_
            refine lv_iload_n hx hb d_Pt_onesOf_11 rfl (lv_at hl 0 rfl) ?_
            refine lv_ishr hx hb d_Pt_onesOf_12 ?_
            refine lv_iconst (v := 1) hx hb d_Pt_onesOf_13 (by decide) ?_
            refine lv_iand hx hb d_Pt_onesOf_14 ?_
            refine lv_i2l hx hb d_Pt_onesOf_15 rfl ?_
            refine lv_iload_n hx hb d_Pt_onesOf_16 rfl (lv_at hl 0 rfl) ?_
            refine lv_bipush (v := 12) hx hb d_Pt_onesOf_17 (by decide) ?_
            refine lv_imul hx hb d_Pt_onesOf_19 ?_
            refine lv_lshl hx hb d_Pt_onesOf_20 rfl ?_
            refine lv_lor hx hb d_Pt_onesOf_21 ?_
            refine lv_lstore_n (lv' := [(1, .long ((((((0 : Int64) ||| (((((nI g) >>> (0 &&& 31)) &&& 1) : Int32).toInt64 <<< (((0 * 12) : Int32).toInt64 &&& 63)) : Int64) ||| (((((nI g) >>> (1 &&& 31)) &&& 1) : Int32).toInt64 <<< (((1 * 12) : Int32).toInt64 &&& 63)) : Int64) ||| (((((nI g) >>> (2 &&& 31)) &&& 1) : Int32).toInt64 <<< (((2 * 12) : Int32).toInt64 &&& 63)) : Int64) ||| (((((nI g) >>> (3 &&& 31)) &&& 1) : Int32).toInt64 <<< (((3 * 12) : Int32).toInt64 &&& 63)) : Int64) ||| (((((nI g) >>> (4 &&& 31)) &&& 1) : Int32).toInt64 <<< (((4 * 12) : Int32).toInt64 &&& 63)) : Int64)), (3, .int 4), (0, .int (nI g))]) hx hb d_Pt_onesOf_22 rfl hl (by decide) rfl (fun ls hl => ?_)
            refine lv_iinc (v := 5) (lv' := [(3, .int 5), (1, .long ((((((0 : Int64) ||| (((((nI g) >>> (0 &&& 31)) &&& 1) : Int32).toInt64 <<< (((0 * 12) : Int32).toInt64 &&& 63)) : Int64) ||| (((((nI g) >>> (1 &&& 31)) &&& 1) : Int32).toInt64 <<< (((1 * 12) : Int32).toInt64 &&& 63)) : Int64) ||| (((((nI g) >>> (2 &&& 31)) &&& 1) : Int32).toInt64 <<< (((2 * 12) : Int32).toInt64 &&& 63)) : Int64) ||| (((((nI g) >>> (3 &&& 31)) &&& 1) : Int32).toInt64 <<< (((3 * 12) : Int32).toInt64 &&& 63)) : Int64) ||| (((((nI g) >>> (4 &&& 31)) &&& 1) : Int32).toInt64 <<< (((4 * 12) : Int32).toInt64 &&& 63)) : Int64)), (0, .int (nI g))]) hx hb d_Pt_onesOf_23 hl (k := 1) rfl (by first | rfl | decide) (by decide) rfl (fun ls hl => ?_)
            refine lv_goto (tgt := 4) hx hb d_Pt_onesOf_26 (by decide) ?_
            refine lv_iload_n hx hb d_Pt_onesOf_4 rfl (lv_at hl 0 rfl) ?_
            refine lv_iconst (v := 5) hx hb d_Pt_onesOf_5 (by decide) ?_
            refine lv_icmp_ge (tgt := 29) hx hb d_Pt_onesOf_6 (by decide) (fun c_6_5 => ?_) (fun c_6_5 => ?_)
            · refine lv_lload_n hx hb d_Pt_onesOf_29 rfl (lv_at hl 1 rfl) ?_
              exact W.lret (v := ((((((0 : Int64) ||| (((((nI g) >>> (0 &&& 31)) &&& 1) : Int32).toInt64 <<< (((0 * 12) : Int32).toInt64 &&& 63)) : Int64) ||| (((((nI g) >>> (1 &&& 31)) &&& 1) : Int32).toInt64 <<< (((1 * 12) : Int32).toInt64 &&& 63)) : Int64) ||| (((((nI g) >>> (2 &&& 31)) &&& 1) : Int32).toInt64 <<< (((2 * 12) : Int32).toInt64 &&& 63)) : Int64) ||| (((((nI g) >>> (3 &&& 31)) &&& 1) : Int32).toInt64 <<< (((3 * 12) : Int32).toInt64 &&& 63)) : Int64) ||| (((((nI g) >>> (4 &&& 31)) &&& 1) : Int32).toInt64 <<< (((4 * 12) : Int32).toInt64 &&& 63)) : Int64)) hx hb hr (fun t ht hW => ⟨((((((0 : Int64) ||| (((((nI g) >>> (0 &&& 31)) &&& 1) : Int32).toInt64 <<< (((0 * 12) : Int32).toInt64 &&& 63)) : Int64) ||| (((((nI g) >>> (1 &&& 31)) &&& 1) : Int32).toInt64 <<< (((1 * 12) : Int32).toInt64 &&& 63)) : Int64) ||| (((((nI g) >>> (2 &&& 31)) &&& 1) : Int32).toInt64 <<< (((2 * 12) : Int32).toInt64 &&& 63)) : Int64) ||| (((((nI g) >>> (3 &&& 31)) &&& 1) : Int32).toInt64 <<< (((3 * 12) : Int32).toInt64 &&& 63)) : Int64) ||| (((((nI g) >>> (4 &&& 31)) &&& 1) : Int32).toInt64 <<< (((4 * 12) : Int32).toInt64 &&& 63)) : Int64), rfl, ((by decide +kernel : ∀ g : Nat, g < 32 → ((((((0 : Int64) ||| (((((nI g) >>> (0 &&& 31)) &&& 1) : Int32).toInt64 <<< (((0 * 12) : Int32).toInt64 &&& 63)) : Int64) ||| (((((nI g) >>> (1 &&& 31)) &&& 1) : Int32).toInt64 <<< (((1 * 12) : Int32).toInt64 &&& 63)) : Int64) ||| (((((nI g) >>> (2 &&& 31)) &&& 1) : Int32).toInt64 <<< (((2 * 12) : Int32).toInt64 &&& 63)) : Int64) ||| (((((nI g) >>> (3 &&& 31)) &&& 1) : Int32).toInt64 <<< (((3 * 12) : Int32).toInt64 &&& 63)) : Int64) ||| (((((nI g) >>> (4 &&& 31)) &&& 1) : Int32).toInt64 <<< (((4 * 12) : Int32).toInt64 &&& 63)) : Int64) = lN (on g)) g hg), ht⟩) (fun _ h => by cases h) d_Pt_onesOf_30
            · exact absurd (by decide) c_6_5

set_option maxHeartbeats 4000000 in
set_option maxRecDepth 100000 in
theorem c_Pt_pointAbove (l : Launch) (b1 b2 : Nat → Nat) (hb1 : byt b1) (hb2 : byt b2) (g : Nat) (hg : g < 32) : Met l y_Pt_pointAbove (cw_Pt_pointAbove :: tb) (rmH 3 0 0) (va_Pc [.long (en b1), .long (en b2), .int (nI g)] (fun _ => True)) (ry_S ry_l (fun r => r = pab b1 b2 g)) 0 0 (fun _ => False) := by
  refine Met.ofW (cc := b_Pt_pointAbove) (maxL := 9) (ret := (some .long)) (by decide +kernel) rfl ?_
  intro p e s m args below meth c s₁ B hml0 hv
  have C0 := cx_of B hml0 rfl
  obtain ⟨hx, hb, hr, hml, hown, htb, hlocks⟩ := id C0
  obtain ⟨rfl, -⟩ := hv
  have hl := lv_entry ([.long (en b1), .long (en b2), .int (nI g)]) (n := 9) (Nat.le_of_ble_eq_true rfl)
  rw [lg_entry_eq]
  generalize (lg_sl ([.long (en b1), .long (en b2), .int (nI g)]) ++ List.replicate (9 - (lg_sl ([.long (en b1), .long (en b2), .int (nI g)])).length) Slot.unset).toArray = ls at hl ⊢
  have hl : lv_has ls 9 [(0, .long (en b1)), (2, .long (en b2)), (4, .int (nI g))] := hl
  obtain ⟨q0, q1, q2, q3, q4, q5⟩ := byt_all hb1
  obtain ⟨u0, u1, u2, u3, u4, u5⟩ := byt_all hb2
  have hv1 := vo_lt hb1
  have hv2 := vo_lt hb2
  refine lv_iload hx hb d_Pt_pointAbove_0 (lv_at hl 2 rfl) ?_
  refine ry_callS (n := 1) (As := [.int (nI g)]) (rest := []) ⟨hx, hb, hml, hown, htb⟩ (c_Pt_onesOf l g hg) (gS mw_505 mw_506 mw_12 mc_Pt_onesOf) rfl rfl (by decide +kernel) ⟨Nat.le_of_ble_eq_true rfl, Nat.le_of_ble_eq_true rfl⟩ rfl hl.1 rfl (Nat.le_of_ble_eq_true rfl) d_Pt_pointAbove_2 ⟨Nat.zero_le _, Nat.zero_le _⟩ (fun r_1 hr_1 => ?_)
  subst hr_1
  refine W.eq (g2 := F0 m 5 ls [.long (lN (on g))]) rfl ?_
  refine lv_lstore (lv' := [(5, .long (lN (on g))), (0, .long (en b1)), (2, .long (en b2)), (4, .int (nI g))]) hx hb d_Pt_pointAbove_5 hl (by decide) rfl (fun ls hl => ?_)
  refine lv_lload_n hx hb d_Pt_pointAbove_7 rfl (lv_at hl 1 rfl) ?_
  refine lv_lload_n hx hb d_Pt_pointAbove_8 rfl (lv_at hl 2 rfl) ?_
  refine ry_callS (n := 2) (As := [.long (en b1), .long (en b2)]) (rest := []) ⟨hx, hb, hml, hown, htb⟩ (c_Pt_lastHigher l b1 b2 hb1 hb2) (gS mw_465 mw_466 mw_12 mc_Pt_lastHigher) rfl rfl (by decide +kernel) ⟨Nat.le_of_ble_eq_true rfl, Nat.le_of_ble_eq_true rfl⟩ rfl hl.1 rfl (Nat.le_of_ble_eq_true rfl) d_Pt_pointAbove_9 ⟨Nat.zero_le _, Nat.zero_le _⟩ (fun r_2 hr_2 => ?_)
  subst hr_2
  refine W.eq (g2 := F0 m 12 ls [.int (lh b1 b2)]) rfl ?_
  refine lv_istore (lv' := [(7, .int (lh b1 b2)), (5, .long (lN (on g))), (0, .long (en b1)), (2, .long (en b2)), (4, .int (nI g))]) hx hb d_Pt_pointAbove_12 hl (by decide) rfl (fun ls hl => ?_)
  refine lv_iload hx hb d_Pt_pointAbove_14 (lv_at hl 0 rfl) ?_
  refine lv_iconst (v := (-1)) hx hb d_Pt_pointAbove_16 (by decide) ?_
  refine lv_icmp_eq (tgt := 31) hx hb d_Pt_pointAbove_17 (by decide) (fun c_17 => ?_) (fun c_17 => ?_)
  · refine lv_lload hx hb d_Pt_pointAbove_31 (lv_at hl 1 rfl) ?_
    exact W.lret (v := (lN (on g))) hx hb hr (fun t ht hW => ⟨(lN (on g)), rfl, (by rw [pab, if_pos (Or.inl c_17)]), ht⟩) (fun _ h => by cases h) d_Pt_pointAbove_33
  · refine lv_lload_n hx hb d_Pt_pointAbove_20 rfl (lv_at hl 2 rfl) ?_
    refine ry_callS (n := 1) (As := [.long (en b1)]) (rest := []) ⟨hx, hb, hml, hown, htb⟩ (c_Pt_valueAtOnes l b1 hb1) (gS mw_468 mw_469 mw_12 mc_Pt_valueAtOnes) rfl rfl (by decide +kernel) ⟨Nat.le_of_ble_eq_true rfl, Nat.le_of_ble_eq_true rfl⟩ rfl hl.1 rfl (Nat.le_of_ble_eq_true rfl) d_Pt_pointAbove_21 ⟨Nat.zero_le _, Nat.zero_le _⟩ (fun r_3 hr_3 => ?_)
    subst hr_3
    refine W.eq (g2 := F0 m 24 ls [.int (nI (vo b1))]) rfl ?_
    refine lv_lload_n hx hb d_Pt_pointAbove_24 rfl (lv_at hl 3 rfl) ?_
    refine ry_callS (n := 1) (As := [.long (en b2)]) (rest := [.int (nI (vo b1))]) ⟨hx, hb, hml, hown, htb⟩ (c_Pt_valueAtOnes l b2 hb2) (gS mw_468 mw_469 mw_12 mc_Pt_valueAtOnes) rfl rfl (by decide +kernel) ⟨Nat.le_of_ble_eq_true rfl, Nat.le_of_ble_eq_true rfl⟩ rfl hl.1 rfl (Nat.le_of_ble_eq_true rfl) d_Pt_pointAbove_25 ⟨Nat.zero_le _, Nat.zero_le _⟩ (fun r_4 hr_4 => ?_)
    subst hr_4
    refine W.eq (g2 := F0 m 28 ls [.int (nI (vo b2)), .int (nI (vo b1))]) rfl ?_
    refine lv_icmp_le (tgt := 34) hx hb d_Pt_pointAbove_28 (by decide) (fun c_28 => ?_) (fun c_28 => ?_)
    · obtain ⟨X, hX, eX, hX1, -⟩ := (lh_cases b1 b2).resolve_left c_17
      rw [eX] at hl
      have hX5 := vo_ge b1 hX
      have hvv : vo b1 ≤ vo b2 := (nI_leI (by omega) (by omega)).mp c_28
      refine lv_lload_n hx hb d_Pt_pointAbove_34 rfl (lv_at hl 3 rfl) ?_
      refine ry_callS (n := 1) (As := [.long (en b2)]) (rest := []) ⟨hx, hb, hml, hown, htb⟩ (c_Pt_valueAtOnes l b2 hb2) (gS mw_468 mw_469 mw_12 mc_Pt_valueAtOnes) rfl rfl (by decide +kernel) ⟨Nat.le_of_ble_eq_true rfl, Nat.le_of_ble_eq_true rfl⟩ rfl hl.1 rfl (Nat.le_of_ble_eq_true rfl) d_Pt_pointAbove_35 ⟨Nat.zero_le _, Nat.zero_le _⟩ (fun r_5 hr_5 => ?_)
      subst hr_5
      refine W.eq (g2 := F0 m 38 ls [.int (nI (vo b2))]) rfl ?_
      refine lv_lload_n hx hb d_Pt_pointAbove_38 rfl (lv_at hl 2 rfl) ?_
      refine lv_iload hx hb d_Pt_pointAbove_39 (lv_at hl 0 rfl) ?_
      refine ry_callS (n := 2) (As := [.long (en b1), .int (nI X)]) (rest := [.int (nI (vo b2))]) ⟨hx, hb, hml, hown, htb⟩ (c_Pt_at l b1 hb1 X (by omega)) (gS mw_349 mw_350 mw_12 mc_Pt_at) rfl rfl (by decide +kernel) ⟨Nat.le_of_ble_eq_true rfl, Nat.le_of_ble_eq_true rfl⟩ rfl hl.1 rfl (Nat.le_of_ble_eq_true rfl) d_Pt_pointAbove_41 ⟨Nat.zero_le _, Nat.zero_le _⟩ (fun r_6 hr_6 => ?_)
      subst hr_6
      refine W.eq (g2 := F0 m 44 ls [.int (nI (b1 X) - 1), .int (nI (vo b2))]) rfl ?_
      refine lv_isub hx hb d_Pt_pointAbove_44 ?_
      refine lv_iconst (v := 1) hx hb d_Pt_pointAbove_45 (by decide) ?_
      refine lv_iadd hx hb d_Pt_pointAbove_46 ?_
      refine lv_istore (lv' := [(8, .int (((nI (vo b2)) - (nI (b1 X) - 1)) + 1)), (7, .int (nI X)), (5, .long (lN (on g))), (0, .long (en b1)), (2, .long (en b2)), (4, .int (nI g))]) hx hb d_Pt_pointAbove_47 hl (by decide) rfl (fun ls hl => ?_)
      refine lv_lload hx hb d_Pt_pointAbove_49 (lv_at hl 2 rfl) ?_
      refine lv_iload hx hb d_Pt_pointAbove_51 (lv_at hl 0 rfl) ?_
      refine lv_iconst (v := 1) hx hb d_Pt_pointAbove_53 (by decide) ?_
      refine lv_isub hx hb d_Pt_pointAbove_54 ?_
      refine lv_i2l hx hb d_Pt_pointAbove_55 rfl ?_
      refine lv_iload hx hb d_Pt_pointAbove_56 (lv_at hl 1 rfl) ?_
      refine lv_bipush (v := 12) hx hb d_Pt_pointAbove_58 (by decide) ?_
      refine lv_imul hx hb d_Pt_pointAbove_60 ?_
      refine lv_lshl hx hb d_Pt_pointAbove_61 rfl ?_
      refine lv_ladd hx hb d_Pt_pointAbove_62 ?_
      exact W.lret (v := ((lN (on g)) + ((((((nI (vo b2)) - (nI (b1 X) - 1)) + 1) - 1) : Int32).toInt64 <<< ((((nI X) * 12) : Int32).toInt64 &&& 63)) : Int64)) hx hb hr (fun t ht hW => ⟨((lN (on g)) + ((((((nI (vo b2)) - (nI (b1 X) - 1)) + 1) - 1) : Int32).toInt64 <<< ((((nI X) * 12) : Int32).toInt64 &&& 63)) : Int64), rfl, (pab_else hg hb1 hb2 hX eX hX1 c_17 hvv hX5), ht⟩) (fun _ h => by cases h) d_Pt_pointAbove_63
    · refine lv_lload hx hb d_Pt_pointAbove_31 (lv_at hl 1 rfl) ?_
      exact W.lret (v := (lN (on g))) hx hb hr (fun t ht hW => ⟨(lN (on g)), rfl, (by rw [pab, if_pos (Or.inr (Nat.lt_of_not_le fun z => c_28 ((nI_leI (by omega) (by omega)).mpr z)))]), ht⟩) (fun _ h => by cases h) d_Pt_pointAbove_33
end
section
/-! Levels: its cells, searches. -/
abbrev tyI (cI cL cZ : ClassId) : List (ClassId × FieldType) := [(cI, .int), (cL, .long), (cZ, .boolean)]
abbrev wLv (cI cL : ClassId) (ad : Nat → Nat) (K F S D U V : Nat → Int32) (PT : Nat → Int64) (n : Nat) : va_W := [(ad 1, .inr (1, [.ref (ad 2), .ref (ad 3), .ref (ad 4), .ref (ad 5), .ref (ad 6), .ref (ad 7), .ref (ad 8), .int (nI n)])), (ad 2, .inl (cI, 120, .inl K)), (ad 3, .inl (cI, 120, .inl F)), (ad 4, .inl (cI, 120, .inl S)), (ad 5, .inl (cI, 120, .inl D)), (ad 6, .inl (cI, 120, .inl U)), (ad 7, .inl (cI, 120, .inl V)), (ad 8, .inl (cL, 3840, .inr (.inl PT)))]
/-- the first place from i on, of m -/
def ff (P : Nat → Bool) : Nat → Nat → Int32
  | _, 0 => -1
  | i, m + 1 => if P i = true then nI i else ff P (i + 1) m
theorem ff_t {P : Nat → Bool} {i m : Nat} (h : P i = true) : ff P i (m + 1) = nI i := by rw [ff, if_pos h]
theorem ff_f {P : Nat → Bool} {i m : Nat} (h : ¬ P i = true) : ff P i (m + 1) = ff P (i + 1) m := by rw [ff, if_neg h]
theorem ff_cases {P : Nat → Bool} : ∀ m i, (ff P i m = -1 ∧ ∀ j, i ≤ j → j < i + m → ¬ P j = true) ∨ ∃ j, i ≤ j ∧ j < i + m ∧ ff P i m = nI j ∧ P j = true ∧ ∀ q, i ≤ q → q < j → ¬ P q = true
  | 0, i => Or.inl ⟨rfl, fun j h1 h2 => by omega⟩
  | m + 1, i => by
    by_cases h : P i = true
    · exact Or.inr ⟨i, Nat.le_refl _, by omega, ff_t h, h, fun q h1 h2 => by omega⟩
    · rw [ff_f h]
      rcases ff_cases (P := P) m (i + 1) with ⟨h1, h2⟩ | ⟨j, h1, h2, h3, h4, h5⟩
      · refine Or.inl ⟨h1, fun j a b => ?_⟩
        rcases Nat.lt_or_ge i j with z | z
        · exact h2 j z (by omega)
        · rw [show j = i by omega]; exact h
      · refine Or.inr ⟨j, by omega, by omega, h3, h4, fun q a b => ?_⟩
        rcases Nat.lt_or_ge i q with z | z
        · exact h5 q z b
        · rw [show q = i by omega]; exact h
theorem nI_m1 {j : Nat} (h : j < 2 ^ 31) : ¬ nI j = -1 := fun z => by
  have h1 := nI_toInt h
  rw [z] at h1
  have : ((-1 : Int32)).toInt = -1 := by decide
  omega
/-- whether there is such a level -/
def hs (x : Int32) (n : Nat) : Int32 := if x < 0 then 0 else if nI n ≤ x then 0 else 1
theorem hs_cases (x : Int32) {n : Nat} (hn : n < 2 ^ 31) : (hs x n = 0 ∧ (x < 0 ∨ nI n ≤ x)) ∨ ∃ j, j < n ∧ x = nI j ∧ hs x n = 1 := by
  unfold hs
  by_cases h0 : x < 0
  · exact Or.inl ⟨by rw [if_pos h0], Or.inl h0⟩
  rw [if_neg h0]
  by_cases h1 : nI n ≤ x
  · exact Or.inl ⟨by rw [if_pos h1], Or.inr h1⟩
  rw [if_neg h1]
  rcases pk_ix x hn with h | h | ⟨j, h, e⟩
  · exact absurd h h0
  · exact absurd h h1
  · exact Or.inr ⟨j, h, e, rfl⟩
theorem sw3 (x : Int32) : x = 0 ∨ x = 1 ∨ x = 2 ∨ (x.toInt < 0 ∨ 2 < x.toInt) := by
  rcases pk_ix x (n := 3) (by decide) with h | h | ⟨j, h, e⟩
  · exact Or.inr (Or.inr (Or.inr (Or.inl (by rw [Int32.lt_iff_toInt_lt] at h; exact h))))
  · refine Or.inr (Or.inr (Or.inr (Or.inr ?_)))
    rw [Int32.le_iff_toInt_le, nI_toInt (by decide)] at h
    omega
  · rcases (show j = 0 ∨ j = 1 ∨ j = 2 by omega) with rfl | rfl | rfl
    · exact Or.inl e
    · exact Or.inr (Or.inl e)
    · exact Or.inr (Or.inr (Or.inl e))
/-- what a level is -/
def det (K F S : Nat → Int32) (j : Nat) (w : Int32) : Int32 := if w = 0 then K j else if w = 1 then F j else if w = 2 then S j else -1
theorem lg_cmp0 {x y : Int64} : lg_cmp x y = 0 ↔ x = y := by
  unfold lg_cmp
  constructor
  · intro h
    split at h
    · exact absurd h (by decide)
    · split at h
      · assumption
      · exact absurd h (by decide)
  · intro h
    subst h
    rw [if_neg (by rw [gt_iff_lt, Int64.lt_iff_toInt_lt]; omega), if_pos rfl]
end
section
set_option maxHeartbeats 4000000 in
set_option maxRecDepth 100000 in
theorem c_Lv_size (l : Launch) (dC : Nat → ClassId) (dI : Nat → Nat → Nat) (cI cL cZ : ClassId) (ad : Nat → Nat) (K F S D U V : Nat → Int32) (PT : Nat → Int64) (n : Nat) (hn : n ≤ 120)  : Met l y_Lv_size (cw_Lv_size :: tb) (rmH 1 0 0) (va_Pc [.ref (ad 1)] (ry_P (dC, dI) classes (wLv cI cL ad K F S D U V PT n) (tyI cI cL cZ))) (ry_S ry_i (fun r => r = nI n)) 0 0 (fun _ => False) := by
  refine Met.ofW (cc := b_Lv_size) (maxL := 1) (ret := (some .int)) (by decide +kernel) rfl ?_
  intro p e s m args below meth c s₁ B hml0 hv
  have C0 := cx_of B hml0 rfl
  obtain ⟨hx, hb, hr, hml, hown, htb, hlocks⟩ := id C0
  obtain ⟨rfl, hP, hK⟩ := hv
  have hl := lv_entry ([.ref (ad 1)]) (n := 1) (Nat.le_of_ble_eq_true rfl)
  rw [lg_entry_eq]
  generalize (lg_sl ([.ref (ad 1)]) ++ List.replicate (1 - (lg_sl ([.ref (ad 1)])).length) Slot.unset).toArray = ls at hl ⊢
  have hl : lv_has ls 1 [(0, .ref (ad 1))] := hl
  have hP : va_P (dC, dI) classes [((ad 1), .inr (1, [.ref (ad 2), .ref (ad 3), .ref (ad 4), .ref (ad 5), .ref (ad 6), .ref (ad 7), .ref (ad 8), .int (nI n)])), ((ad 2), .inl (cI, 120, .inl K)), ((ad 3), .inl (cI, 120, .inl F)), ((ad 4), .inl (cI, 120, .inl S)), ((ad 5), .inl (cI, 120, .inl D)), ((ad 6), .inl (cI, 120, .inl U)), ((ad 7), .inl (cI, 120, .inl V)), ((ad 8), .inl (cL, 3840, .inr (.inl PT)))] s.heap := hP
  refine lv_aload_n hx hb d_Lv_size_0 rfl (lv_at hl 0 rfl) ?_
  refine va_get (D := (dC, dI)) (ci := 1) (v := .int (nI n)) (C := R_Lv) (T := F_Lv) (N := 8) hx hb htb ul_Lv hown hK hP 0 rfl rfl 7 (by decide) (htb _ mw_36) (fun _ h9 => h9) rfl d_Lv_size_1 ?_
  exact W.iret (v := (nI n)) hx hb hr (fun t ht hW => ⟨(nI n), rfl, rfl, ht⟩) (fun _ h => by cases h) d_Lv_size_4

set_option maxHeartbeats 4000000 in
set_option maxRecDepth 100000 in
theorem c_Lv_has (l : Launch) (dC : Nat → ClassId) (dI : Nat → Nat → Nat) (cI cL cZ : ClassId) (ad : Nat → Nat) (K F S D U V : Nat → Int32) (PT : Nat → Int64) (n : Nat) (hn : n ≤ 120) (x : Int32) : Met l y_Lv_has (cw_Lv_has :: tb) (rmH 1 0 0) (va_Pc [.ref (ad 1), .int x] (ry_P (dC, dI) classes (wLv cI cL ad K F S D U V PT n) (tyI cI cL cZ))) (ry_S ry_i (fun r => r = hs x n)) 0 0 (fun _ => False) := by
  refine Met.ofW (cc := b_Lv_has) (maxL := 2) (ret := (some .boolean)) (by decide +kernel) rfl ?_
  intro p e s m args below meth c s₁ B hml0 hv
  have C0 := cx_of B hml0 rfl
  obtain ⟨hx, hb, hr, hml, hown, htb, hlocks⟩ := id C0
  obtain ⟨rfl, hP, hK⟩ := hv
  have hl := lv_entry ([.ref (ad 1), .int x]) (n := 2) (Nat.le_of_ble_eq_true rfl)
  rw [lg_entry_eq]
  generalize (lg_sl ([.ref (ad 1), .int x]) ++ List.replicate (2 - (lg_sl ([.ref (ad 1), .int x])).length) Slot.unset).toArray = ls at hl ⊢
  have hl : lv_has ls 2 [(0, .ref (ad 1)), (1, .int x)] := hl
  have hP : va_P (dC, dI) classes [((ad 1), .inr (1, [.ref (ad 2), .ref (ad 3), .ref (ad 4), .ref (ad 5), .ref (ad 6), .ref (ad 7), .ref (ad 8), .int (nI n)])), ((ad 2), .inl (cI, 120, .inl K)), ((ad 3), .inl (cI, 120, .inl F)), ((ad 4), .inl (cI, 120, .inl S)), ((ad 5), .inl (cI, 120, .inl D)), ((ad 6), .inl (cI, 120, .inl U)), ((ad 7), .inl (cI, 120, .inl V)), ((ad 8), .inl (cL, 3840, .inr (.inl PT)))] s.heap := hP
  refine lv_iload_n hx hb d_Lv_has_0 rfl (lv_at hl 1 rfl) ?_
  refine lv_if_lt (tgt := 16) hx hb d_Lv_has_1 (by decide) (fun c_1 => ?_) (fun c_1 => ?_)
  · refine lv_iconst (v := 0) hx hb d_Lv_has_16 (by decide) ?_
    exact W.zret (v := 0) hx hb hr rfl (fun t ht hW => ⟨0, rfl, (by rw [hs, if_pos c_1]), ht⟩) (fun _ h => by cases h) d_Lv_has_17
  · refine lv_iload_n hx hb d_Lv_has_4 rfl (lv_at hl 1 rfl) ?_
    refine lv_aload_n hx hb d_Lv_has_5 rfl (lv_at hl 0 rfl) ?_
    refine va_get (D := (dC, dI)) (ci := 1) (v := .int (nI n)) (C := R_Lv) (T := F_Lv) (N := 8) hx hb htb ul_Lv hown hK hP 0 rfl rfl 7 (by decide) (htb _ mw_36) (fun _ h9 => h9) rfl d_Lv_has_6 ?_
    refine lv_icmp_ge (tgt := 16) hx hb d_Lv_has_9 (by decide) (fun c_9 => ?_) (fun c_9 => ?_)
    · refine lv_iconst (v := 0) hx hb d_Lv_has_16 (by decide) ?_
      exact W.zret (v := 0) hx hb hr rfl (fun t ht hW => ⟨0, rfl, (by rw [hs, if_neg c_1, if_pos c_9]), ht⟩) (fun _ h => by cases h) d_Lv_has_17
    · refine lv_iconst (v := 1) hx hb d_Lv_has_12 (by decide) ?_
      refine lv_goto (tgt := 17) hx hb d_Lv_has_13 (by decide) ?_
      exact W.zret (v := 1) hx hb hr rfl (fun t ht hW => ⟨1, rfl, (by rw [hs, if_neg c_1, if_neg c_9]), ht⟩) (fun _ h => by cases h) d_Lv_has_17

set_option maxHeartbeats 4000000 in
set_option maxRecDepth 100000 in
theorem c_Lv_detail (l : Launch) (dC : Nat → ClassId) (dI : Nat → Nat → Nat) (cI cL cZ : ClassId) (ad : Nat → Nat) (K F S D U V : Nat → Int32) (PT : Nat → Int64) (n : Nat) (hn : n ≤ 120) (j : Nat) (hj : j < 120) (w : Int32) : Met l y_Lv_detail (cw_Lv_detail :: tb) (rmH 1 0 0) (va_Pc [.ref (ad 1), .int (nI j), .int w] (ry_P (dC, dI) classes (wLv cI cL ad K F S D U V PT n) (tyI cI cL cZ))) (ry_S ry_i (fun r => r = det K F S j w)) 0 0 (fun _ => False) := by
  refine Met.ofW (cc := b_Lv_detail) (maxL := 3) (ret := (some .int)) (by decide +kernel) rfl ?_
  intro p e s m args below meth c s₁ B hml0 hv
  have C0 := cx_of B hml0 rfl
  obtain ⟨hx, hb, hr, hml, hown, htb, hlocks⟩ := id C0
  obtain ⟨rfl, hP, hK⟩ := hv
  have hl := lv_entry ([.ref (ad 1), .int (nI j), .int w]) (n := 3) (Nat.le_of_ble_eq_true rfl)
  rw [lg_entry_eq]
  generalize (lg_sl ([.ref (ad 1), .int (nI j), .int w]) ++ List.replicate (3 - (lg_sl ([.ref (ad 1), .int (nI j), .int w])).length) Slot.unset).toArray = ls at hl ⊢
  have hl : lv_has ls 3 [(0, .ref (ad 1)), (1, .int (nI j)), (2, .int w)] := hl
  have hP : va_P (dC, dI) classes [((ad 1), .inr (1, [.ref (ad 2), .ref (ad 3), .ref (ad 4), .ref (ad 5), .ref (ad 6), .ref (ad 7), .ref (ad 8), .int (nI n)])), ((ad 2), .inl (cI, 120, .inl K)), ((ad 3), .inl (cI, 120, .inl F)), ((ad 4), .inl (cI, 120, .inl S)), ((ad 5), .inl (cI, 120, .inl D)), ((ad 6), .inl (cI, 120, .inl U)), ((ad 7), .inl (cI, 120, .inl V)), ((ad 8), .inl (cL, 3840, .inr (.inl PT)))] s.heap := hP
  refine lv_iload_n hx hb d_Lv_detail_0 rfl (lv_at hl 2 rfl) ?_
  rcases sw3 w with h9 | h9 | h9 | h9
  · refine lv_tableIn (off := 27) (tgt := 28) hx hb d_Lv_detail_1 (by rw [h9]; decide) (by rw [h9]; decide) (by rw [h9]; decide) (by decide) ?_
    refine lv_aload_n hx hb d_Lv_detail_28 rfl (lv_at hl 0 rfl) ?_
    refine va_get (D := (dC, dI)) (ci := 1) (v := .ref (ad 2)) (C := R_Lv) (T := F_Lv) (N := 8) hx hb htb ul_Lv hown hK hP 0 rfl rfl 0 (by decide) (htb _ mw_29) (fun _ h9 => h9) rfl d_Lv_detail_29 ?_
    refine lv_iload_n hx hb d_Lv_detail_32 rfl (lv_at hl 1 rfl) ?_
    refine ry_iald (D := (dC, dI)) (j := j) hx hb hK hP 1 0 rfl rfl (by omega) (by decide) d_Lv_detail_33 ?_
    exact W.iret (v := (K j)) hx hb hr (fun t ht hW => ⟨(K j), rfl, (by rw [det, if_pos h9]), ht⟩) (fun _ h => by cases h) d_Lv_detail_34
  · refine lv_tableIn (off := 34) (tgt := 35) hx hb d_Lv_detail_1 (by rw [h9]; decide) (by rw [h9]; decide) (by rw [h9]; decide) (by decide) ?_
    refine lv_aload_n hx hb d_Lv_detail_35 rfl (lv_at hl 0 rfl) ?_
    refine va_get (D := (dC, dI)) (ci := 1) (v := .ref (ad 3)) (C := R_Lv) (T := F_Lv) (N := 8) hx hb htb ul_Lv hown hK hP 0 rfl rfl 1 (by decide) (htb _ mw_30) (fun _ h9 => h9) rfl d_Lv_detail_36 ?_
    refine lv_iload_n hx hb d_Lv_detail_39 rfl (lv_at hl 1 rfl) ?_
    refine ry_iald (D := (dC, dI)) (j := j) hx hb hK hP 2 0 rfl rfl (by omega) (by decide) d_Lv_detail_40 ?_
    exact W.iret (v := (F j)) hx hb hr (fun t ht hW => ⟨(F j), rfl, (by rw [det, if_neg (by rw [h9]; decide), if_pos h9]), ht⟩) (fun _ h => by cases h) d_Lv_detail_41
  · refine lv_tableIn (off := 41) (tgt := 42) hx hb d_Lv_detail_1 (by rw [h9]; decide) (by rw [h9]; decide) (by rw [h9]; decide) (by decide) ?_
    refine lv_aload_n hx hb d_Lv_detail_42 rfl (lv_at hl 0 rfl) ?_
    refine va_get (D := (dC, dI)) (ci := 1) (v := .ref (ad 4)) (C := R_Lv) (T := F_Lv) (N := 8) hx hb htb ul_Lv hown hK hP 0 rfl rfl 2 (by decide) (htb _ mw_31) (fun _ h9 => h9) rfl d_Lv_detail_43 ?_
    refine lv_iload_n hx hb d_Lv_detail_46 rfl (lv_at hl 1 rfl) ?_
    refine ry_iald (D := (dC, dI)) (j := j) hx hb hK hP 3 0 rfl rfl (by omega) (by decide) d_Lv_detail_47 ?_
    exact W.iret (v := (S j)) hx hb hr (fun t ht hW => ⟨(S j), rfl, (by rw [det, if_neg (by rw [h9]; decide), if_neg (by rw [h9]; decide), if_pos h9]), ht⟩) (fun _ h => by cases h) d_Lv_detail_48
  · refine lv_tableOut (tgt := 49) hx hb d_Lv_detail_1 h9 (by decide) ?_
    refine lv_iconst (v := (-1)) hx hb d_Lv_detail_49 (by decide) ?_
    exact W.iret (v := (-1)) hx hb hr (fun t ht hW => ⟨(-1), rfl, (by rw [det, if_neg (by rintro rfl; revert h9; decide), if_neg (by rintro rfl; revert h9; decide), if_neg (by rintro rfl; revert h9; decide)]), ht⟩) (fun _ h => by cases h) d_Lv_detail_50

set_option maxHeartbeats 4000000 in
set_option maxRecDepth 100000 in
theorem c_Lv_isParameter (l : Launch) (dC : Nat → ClassId) (dI : Nat → Nat → Nat) (cI cL cZ : ClassId) (ad : Nat → Nat) (K F S D U V : Nat → Int32) (PT : Nat → Int64) (n : Nat) (hn : n ≤ 120) (j : Nat) (hj : j < 120) (x : Int32) : Met l y_Lv_isParameter (cw_Lv_isParameter :: tb) (rmH 1 0 0) (va_Pc [.ref (ad 1), .int (nI j), .int x] (ry_P (dC, dI) classes (wLv cI cL ad K F S D U V PT n) (tyI cI cL cZ))) (ry_S ry_i (fun r => r = if K j = 1 ∧ F j = x then 1 else 0)) 0 0 (fun _ => False) := by
  refine Met.ofW (cc := b_Lv_isParameter) (maxL := 3) (ret := (some .boolean)) (by decide +kernel) rfl ?_
  intro p e s m args below meth c s₁ B hml0 hv
  have C0 := cx_of B hml0 rfl
  obtain ⟨hx, hb, hr, hml, hown, htb, hlocks⟩ := id C0
  obtain ⟨rfl, hP, hK⟩ := hv
  have hl := lv_entry ([.ref (ad 1), .int (nI j), .int x]) (n := 3) (Nat.le_of_ble_eq_true rfl)
  rw [lg_entry_eq]
  generalize (lg_sl ([.ref (ad 1), .int (nI j), .int x]) ++ List.replicate (3 - (lg_sl ([.ref (ad 1), .int (nI j), .int x])).length) Slot.unset).toArray = ls at hl ⊢
  have hl : lv_has ls 3 [(0, .ref (ad 1)), (1, .int (nI j)), (2, .int x)] := hl
  have hP : va_P (dC, dI) classes [((ad 1), .inr (1, [.ref (ad 2), .ref (ad 3), .ref (ad 4), .ref (ad 5), .ref (ad 6), .ref (ad 7), .ref (ad 8), .int (nI n)])), ((ad 2), .inl (cI, 120, .inl K)), ((ad 3), .inl (cI, 120, .inl F)), ((ad 4), .inl (cI, 120, .inl S)), ((ad 5), .inl (cI, 120, .inl D)), ((ad 6), .inl (cI, 120, .inl U)), ((ad 7), .inl (cI, 120, .inl V)), ((ad 8), .inl (cL, 3840, .inr (.inl PT)))] s.heap := hP
  refine lv_aload_n hx hb d_Lv_isParameter_0 rfl (lv_at hl 0 rfl) ?_
  refine va_get (D := (dC, dI)) (ci := 1) (v := .ref (ad 2)) (C := R_Lv) (T := F_Lv) (N := 8) hx hb htb ul_Lv hown hK hP 0 rfl rfl 0 (by decide) (htb _ mw_29) (fun _ h9 => h9) rfl d_Lv_isParameter_1 ?_
  refine lv_iload_n hx hb d_Lv_isParameter_4 rfl (lv_at hl 1 rfl) ?_
  refine ry_iald (D := (dC, dI)) (j := j) hx hb hK hP 1 0 rfl rfl (by omega) (by decide) d_Lv_isParameter_5 ?_
  refine lv_iconst (v := 1) hx hb d_Lv_isParameter_6 (by decide) ?_
  refine lv_icmp_ne (tgt := 24) hx hb d_Lv_isParameter_7 (by decide) (fun c_7 => ?_) (fun c_7 => ?_)
  · refine lv_iconst (v := 0) hx hb d_Lv_isParameter_24 (by decide) ?_
    exact W.zret (v := 0) hx hb hr rfl (fun t ht hW => ⟨0, rfl, (by rw [if_neg (fun z => c_7 z.1)]), ht⟩) (fun _ h => by cases h) d_Lv_isParameter_25
  · refine lv_aload_n hx hb d_Lv_isParameter_10 rfl (lv_at hl 0 rfl) ?_
    refine va_get (D := (dC, dI)) (ci := 1) (v := .ref (ad 3)) (C := R_Lv) (T := F_Lv) (N := 8) hx hb htb ul_Lv hown hK hP 0 rfl rfl 1 (by decide) (htb _ mw_30) (fun _ h9 => h9) rfl d_Lv_isParameter_11 ?_
    refine lv_iload_n hx hb d_Lv_isParameter_14 rfl (lv_at hl 1 rfl) ?_
    refine ry_iald (D := (dC, dI)) (j := j) hx hb hK hP 2 0 rfl rfl (by omega) (by decide) d_Lv_isParameter_15 ?_
    refine lv_iload_n hx hb d_Lv_isParameter_16 rfl (lv_at hl 2 rfl) ?_
    refine lv_icmp_ne (tgt := 24) hx hb d_Lv_isParameter_17 (by decide) (fun c_17 => ?_) (fun c_17 => ?_)
    · refine lv_iconst (v := 0) hx hb d_Lv_isParameter_24 (by decide) ?_
      exact W.zret (v := 0) hx hb hr rfl (fun t ht hW => ⟨0, rfl, (by rw [if_neg (fun z => c_17 z.2)]), ht⟩) (fun _ h => by cases h) d_Lv_isParameter_25
    · refine lv_iconst (v := 1) hx hb d_Lv_isParameter_20 (by decide) ?_
      refine lv_goto (tgt := 25) hx hb d_Lv_isParameter_21 (by decide) ?_
      exact W.zret (v := 1) hx hb hr rfl (fun t ht hW => ⟨1, rfl, (by rw [if_pos ⟨c_7, c_17⟩]), ht⟩) (fun _ h => by cases h) d_Lv_isParameter_25

set_option maxHeartbeats 4000000 in
set_option maxRecDepth 100000 in
theorem c_Lv_usesParameter (l : Launch) (dC : Nat → ClassId) (dI : Nat → Nat → Nat) (cI cL cZ : ClassId) (ad : Nat → Nat) (K F S D U V : Nat → Int32) (PT : Nat → Int64) (n : Nat) (hn : n ≤ 120) (j : Nat) (hj : j < 120) (x : Int32) : Met l y_Lv_usesParameter (cw_Lv_usesParameter :: tb) (rmH 1 0 0) (va_Pc [.ref (ad 1), .int (nI j), .int x] (ry_P (dC, dI) classes (wLv cI cL ad K F S D U V PT n) (tyI cI cL cZ))) (ry_S ry_i (fun r => r = if (U j >>> (x &&& 31)) &&& 1 = 0 then 0 else 1)) 0 0 (fun _ => False) := by
  refine Met.ofW (cc := b_Lv_usesParameter) (maxL := 3) (ret := (some .boolean)) (by decide +kernel) rfl ?_
  intro p e s m args below meth c s₁ B hml0 hv
  have C0 := cx_of B hml0 rfl
  obtain ⟨hx, hb, hr, hml, hown, htb, hlocks⟩ := id C0
  obtain ⟨rfl, hP, hK⟩ := hv
  have hl := lv_entry ([.ref (ad 1), .int (nI j), .int x]) (n := 3) (Nat.le_of_ble_eq_true rfl)
  rw [lg_entry_eq]
  generalize (lg_sl ([.ref (ad 1), .int (nI j), .int x]) ++ List.replicate (3 - (lg_sl ([.ref (ad 1), .int (nI j), .int x])).length) Slot.unset).toArray = ls at hl ⊢
  have hl : lv_has ls 3 [(0, .ref (ad 1)), (1, .int (nI j)), (2, .int x)] := hl
  have hP : va_P (dC, dI) classes [((ad 1), .inr (1, [.ref (ad 2), .ref (ad 3), .ref (ad 4), .ref (ad 5), .ref (ad 6), .ref (ad 7), .ref (ad 8), .int (nI n)])), ((ad 2), .inl (cI, 120, .inl K)), ((ad 3), .inl (cI, 120, .inl F)), ((ad 4), .inl (cI, 120, .inl S)), ((ad 5), .inl (cI, 120, .inl D)), ((ad 6), .inl (cI, 120, .inl U)), ((ad 7), .inl (cI, 120, .inl V)), ((ad 8), .inl (cL, 3840, .inr (.inl PT)))] s.heap := hP
  refine lv_aload_n hx hb d_Lv_usesParameter_0 rfl (lv_at hl 0 rfl) ?_
  refine va_get (D := (dC, dI)) (ci := 1) (v := .ref (ad 6)) (C := R_Lv) (T := F_Lv) (N := 8) hx hb htb ul_Lv hown hK hP 0 rfl rfl 4 (by decide) (htb _ mw_33) (fun _ h9 => h9) rfl d_Lv_usesParameter_1 ?_
  refine lv_iload_n hx hb d_Lv_usesParameter_4 rfl (lv_at hl 1 rfl) ?_
  refine ry_iald (D := (dC, dI)) (j := j) hx hb hK hP 5 0 rfl rfl (by omega) (by decide) d_Lv_usesParameter_5 ?_
  refine lv_iload_n hx hb d_Lv_usesParameter_6 rfl (lv_at hl 2 rfl) ?_
  refine lv_ishr hx hb d_Lv_usesParameter_7 ?_
  refine lv_iconst (v := 1) hx hb d_Lv_usesParameter_8 (by decide) ?_
  refine lv_iand hx hb d_Lv_usesParameter_9 ?_
  refine lv_if_eq (tgt := 17) hx hb d_Lv_usesParameter_10 (by decide) (fun c_10 => ?_) (fun c_10 => ?_)
  · refine lv_iconst (v := 0) hx hb d_Lv_usesParameter_17 (by decide) ?_
    exact W.zret (v := 0) hx hb hr rfl (fun t ht hW => ⟨0, rfl, (by rw [if_pos c_10]), ht⟩) (fun _ h => by cases h) d_Lv_usesParameter_18
  · refine lv_iconst (v := 1) hx hb d_Lv_usesParameter_13 (by decide) ?_
    refine lv_goto (tgt := 18) hx hb d_Lv_usesParameter_14 (by decide) ?_
    exact W.zret (v := 1) hx hb hr rfl (fun t ht hW => ⟨1, rfl, (by rw [if_neg c_10]), ht⟩) (fun _ h => by cases h) d_Lv_usesParameter_18

set_option maxHeartbeats 4000000 in
set_option maxRecDepth 100000 in
theorem c_Lv_partsIn (l : Launch) (dC : Nat → ClassId) (dI : Nat → Nat → Nat) (cI cL cZ : ClassId) (ad : Nat → Nat) (K F S D U V : Nat → Int32) (PT : Nat → Int64) (n : Nat) (hn : n ≤ 120) (j g : Nat) (hj : j < 120) (hg : g < 32) : Met l y_Lv_partsIn (cw_Lv_partsIn :: tb) (rmH 1 0 0) (va_Pc [.ref (ad 1), .int (nI j), .int (nI g)] (ry_P (dC, dI) classes (wLv cI cL ad K F S D U V PT n) (tyI cI cL cZ))) (ry_S ry_l (fun r => r = PT (j * 32 + g))) 0 0 (fun _ => False) := by
  refine Met.ofW (cc := b_Lv_partsIn) (maxL := 3) (ret := (some .long)) (by decide +kernel) rfl ?_
  intro p e s m args below meth c s₁ B hml0 hv
  have C0 := cx_of B hml0 rfl
  obtain ⟨hx, hb, hr, hml, hown, htb, hlocks⟩ := id C0
  obtain ⟨rfl, hP, hK⟩ := hv
  have hl := lv_entry ([.ref (ad 1), .int (nI j), .int (nI g)]) (n := 3) (Nat.le_of_ble_eq_true rfl)
  rw [lg_entry_eq]
  generalize (lg_sl ([.ref (ad 1), .int (nI j), .int (nI g)]) ++ List.replicate (3 - (lg_sl ([.ref (ad 1), .int (nI j), .int (nI g)])).length) Slot.unset).toArray = ls at hl ⊢
  have hl : lv_has ls 3 [(0, .ref (ad 1)), (1, .int (nI j)), (2, .int (nI g))] := hl
  have hP : va_P (dC, dI) classes [((ad 1), .inr (1, [.ref (ad 2), .ref (ad 3), .ref (ad 4), .ref (ad 5), .ref (ad 6), .ref (ad 7), .ref (ad 8), .int (nI n)])), ((ad 2), .inl (cI, 120, .inl K)), ((ad 3), .inl (cI, 120, .inl F)), ((ad 4), .inl (cI, 120, .inl S)), ((ad 5), .inl (cI, 120, .inl D)), ((ad 6), .inl (cI, 120, .inl U)), ((ad 7), .inl (cI, 120, .inl V)), ((ad 8), .inl (cL, 3840, .inr (.inl PT)))] s.heap := hP
  refine lv_aload_n hx hb d_Lv_partsIn_0 rfl (lv_at hl 0 rfl) ?_
  refine va_get (D := (dC, dI)) (ci := 1) (v := .ref (ad 8)) (C := R_Lv) (T := F_Lv) (N := 8) hx hb htb ul_Lv hown hK hP 0 rfl rfl 6 (by decide) (htb _ mw_35) (fun _ h9 => h9) rfl d_Lv_partsIn_1 ?_
  refine lv_iload_n hx hb d_Lv_partsIn_4 rfl (lv_at hl 1 rfl) ?_
  refine lv_bipush (v := 32) hx hb d_Lv_partsIn_5 (by decide) ?_
  refine lv_imul hx hb d_Lv_partsIn_7 ?_
  refine lv_iload_n hx hb d_Lv_partsIn_8 rfl (lv_at hl 2 rfl) ?_
  refine lv_iadd hx hb d_Lv_partsIn_9 ?_
  rw [show ((nI j * 32 + nI g : Int32)) = nI (j * 32 + g) from by rw [show (32 : Int32) = nI 32 from rfl, pk_mul, nI_add]]
  refine ry_lald (D := (dC, dI)) (j := j * 32 + g) hx hb hK hP 7 1 rfl rfl (by omega) (by decide) d_Lv_partsIn_10 ?_
  exact W.lret (v := (PT (j * 32 + g))) hx hb hr (fun t ht hW => ⟨(PT (j * 32 + g)), rfl, rfl, ht⟩) (fun _ h => by cases h) d_Lv_partsIn_11

set_option maxHeartbeats 4000000 in
set_option maxRecDepth 100000 in
theorem lp_Lv_find {p : Program} (l : Launch) {e : Env} {s : State} {m : MethodId} {args : Array Value} {below : List Frame} {meth : Method} {c : Code} {H : Heap} {locs : List Loc} {Q : State → Prop} (C0 : cx p s m args meth c b_Lv_find 5 (some .int) R_Lv) (dC : Nat → ClassId) (dI : Nat → Nat → Nat) (cI cL cZ : ClassId) (ad : Nat → Nat) (K F S D U V : Nat → Int32) (PT : Nat → Int64) (n : Nat) (hn : n ≤ 120) (k f s1 : Int32) (hK : va_K (dC, dI) classes (tyI cI cL cZ) s) (hP : va_P (dC, dI) classes [((ad 1), .inr (1, [.ref (ad 2), .ref (ad 3), .ref (ad 4), .ref (ad 5), .ref (ad 6), .ref (ad 7), .ref (ad 8), .int (nI n)])), ((ad 2), .inl (cI, 120, .inl K)), ((ad 3), .inl (cI, 120, .inl F)), ((ad 4), .inl (cI, 120, .inl S)), ((ad 5), .inl (cI, 120, .inl D)), ((ad 6), .inl (cI, 120, .inl U)), ((ad 7), .inl (cI, 120, .inl V)), ((ad 8), .inl (cL, 3840, .inr (.inl PT)))] H) (R : Int32)
    (KA : ∀ (i : Nat) (ls : Array Slot), i < n → R = nI i → lv_has ls 5 [(0, .ref (ad 1)), (1, .int k), (2, .int f), (3, .int s1), (4, .int (nI i))] → W p l e (rmH 1 0 0) s m args below meth c H locs 0 0 Q (F0 m 45 ls [])) (KB : ∀ (i : Nat) (ls : Array Slot), R = -1 → lv_has ls 5 [(0, .ref (ad 1)), (1, .int k), (2, .int f), (3, .int s1), (4, .int (nI i))] → W p l e (rmH 1 0 0) s m args below meth c H locs 0 0 Q (F0 m 54 ls [])) :
    ∀ (q i : Nat), i + q = n → R = ff (fun j => decide (K j = k) && decide (F j = f) && decide (S j = s1)) i q → ∀ (ls : Array Slot), lv_has ls 5 [(0, .ref (ad 1)), (1, .int k), (2, .int f), (3, .int s1), (4, .int (nI i))] → W p l e (rmH 1 0 0) s m args below meth c H locs 0 0 Q (F0 m 3 ls []) := by
  obtain ⟨hx, hb, hr, hml, hown, htb, hlocks⟩ := id C0
  intro q
  induction q with
  | zero =>
    intro i hi hR ls hl
    refine lv_iload hx hb d_Lv_find_3 (lv_at hl 4 rfl) ?_
    refine lv_aload_n hx hb d_Lv_find_5 rfl (lv_at hl 0 rfl) ?_
    refine va_get (D := (dC, dI)) (ci := 1) (v := .int (nI n)) (C := R_Lv) (T := F_Lv) (N := 8) hx hb htb ul_Lv hown hK hP 0 rfl rfl 7 (by decide) (htb _ mw_36) (fun _ h9 => h9) rfl d_Lv_find_6 ?_
    refine lv_icmp_ge (tgt := 54) hx hb d_Lv_find_9 (by decide) (fun c_9 => ?_) (fun c_9 => ?_)
    · exact KB i ls hR (lv_sub hl [0, 1, 2, 3, 4] rfl)
    · exact absurd ((nI_leI (a := n) (b := i) (by omega) (by omega)).mpr (by omega)) c_9
  | succ q ih =>
    intro i hi hR ls hl
    refine lv_iload hx hb d_Lv_find_3 (lv_at hl 4 rfl) ?_
    refine lv_aload_n hx hb d_Lv_find_5 rfl (lv_at hl 0 rfl) ?_
    refine va_get (D := (dC, dI)) (ci := 1) (v := .int (nI n)) (C := R_Lv) (T := F_Lv) (N := 8) hx hb htb ul_Lv hown hK hP 0 rfl rfl 7 (by decide) (htb _ mw_36) (fun _ h9 => h9) rfl d_Lv_find_6 ?_
    refine lv_icmp_ge (tgt := 54) hx hb d_Lv_find_9 (by decide) (fun c_9 => ?_) (fun c_9 => ?_)
    · exact absurd ((nI_leI (a := n) (b := i) (by omega) (by omega)).mp c_9) (by omega)
    · refine lv_aload_n hx hb d_Lv_find_12 rfl (lv_at hl 0 rfl) ?_
      refine va_get (D := (dC, dI)) (ci := 1) (v := .ref (ad 2)) (C := R_Lv) (T := F_Lv) (N := 8) hx hb htb ul_Lv hown hK hP 0 rfl rfl 0 (by decide) (htb _ mw_29) (fun _ h9 => h9) rfl d_Lv_find_13 ?_
      refine lv_iload hx hb d_Lv_find_16 (lv_at hl 4 rfl) ?_
      refine ry_iald (D := (dC, dI)) (j := i) hx hb hK hP 1 0 rfl rfl (by omega) (by decide) d_Lv_find_18 ?_
      refine lv_iload_n hx hb d_Lv_find_19 rfl (lv_at hl 1 rfl) ?_
      refine lv_icmp_ne (tgt := 48) hx hb d_Lv_find_20 (by decide) (fun c_20 => ?_) (fun c_20 => ?_)
      · refine lv_iinc (v := (nI (i + 1))) (lv' := [(4, .int (nI (i + 1))), (0, .ref (ad 1)), (1, .int k), (2, .int f), (3, .int s1)]) hx hb d_Lv_find_48 hl (k := 4) rfl (nI_1 _) (by decide) rfl (fun ls hl => ?_)
        refine lv_goto (tgt := 3) hx hb d_Lv_find_51 (by decide) ?_
        exact ih (i + 1) (by omega) (by rw [hR, ff_f (by simp [c_20])]) ls (lv_sub hl [1, 2, 3, 4, 0] rfl)
      · refine lv_aload_n hx hb d_Lv_find_23 rfl (lv_at hl 0 rfl) ?_
        refine va_get (D := (dC, dI)) (ci := 1) (v := .ref (ad 3)) (C := R_Lv) (T := F_Lv) (N := 8) hx hb htb ul_Lv hown hK hP 0 rfl rfl 1 (by decide) (htb _ mw_30) (fun _ h9 => h9) rfl d_Lv_find_24 ?_
        refine lv_iload hx hb d_Lv_find_27 (lv_at hl 4 rfl) ?_
        refine ry_iald (D := (dC, dI)) (j := i) hx hb hK hP 2 0 rfl rfl (by omega) (by decide) d_Lv_find_29 ?_
        refine lv_iload_n hx hb d_Lv_find_30 rfl (lv_at hl 2 rfl) ?_
        refine lv_icmp_ne (tgt := 48) hx hb d_Lv_find_31 (by decide) (fun c_31 => ?_) (fun c_31 => ?_)
        · refine lv_iinc (v := (nI (i + 1))) (lv' := [(4, .int (nI (i + 1))), (0, .ref (ad 1)), (1, .int k), (2, .int f), (3, .int s1)]) hx hb d_Lv_find_48 hl (k := 4) rfl (nI_1 _) (by decide) rfl (fun ls hl => ?_)
          refine lv_goto (tgt := 3) hx hb d_Lv_find_51 (by decide) ?_
          exact ih (i + 1) (by omega) (by rw [hR, ff_f (by simp [c_31])]) ls (lv_sub hl [1, 2, 3, 4, 0] rfl)
        · refine lv_aload_n hx hb d_Lv_find_34 rfl (lv_at hl 0 rfl) ?_
          refine va_get (D := (dC, dI)) (ci := 1) (v := .ref (ad 4)) (C := R_Lv) (T := F_Lv) (N := 8) hx hb htb ul_Lv hown hK hP 0 rfl rfl 2 (by decide) (htb _ mw_31) (fun _ h9 => h9) rfl d_Lv_find_35 ?_
          refine lv_iload hx hb d_Lv_find_38 (lv_at hl 4 rfl) ?_
          refine ry_iald (D := (dC, dI)) (j := i) hx hb hK hP 3 0 rfl rfl (by omega) (by decide) d_Lv_find_40 ?_
          refine lv_iload_n hx hb d_Lv_find_41 rfl (lv_at hl 3 rfl) ?_
          refine lv_icmp_ne (tgt := 48) hx hb d_Lv_find_42 (by decide) (fun c_42 => ?_) (fun c_42 => ?_)
          · refine lv_iinc (v := (nI (i + 1))) (lv' := [(4, .int (nI (i + 1))), (0, .ref (ad 1)), (1, .int k), (2, .int f), (3, .int s1)]) hx hb d_Lv_find_48 hl (k := 4) rfl (nI_1 _) (by decide) rfl (fun ls hl => ?_)
            refine lv_goto (tgt := 3) hx hb d_Lv_find_51 (by decide) ?_
            exact ih (i + 1) (by omega) (by rw [hR, ff_f (by simp [c_42])]) ls (lv_sub hl [1, 2, 3, 4, 0] rfl)
          · exact KA i ls (by omega) (by rw [hR, ff_t (by simp only [c_20, c_31, c_42, decide_true, Bool.and_self])]) (lv_sub hl [0, 1, 2, 3, 4] rfl)

set_option maxHeartbeats 4000000 in
set_option maxRecDepth 100000 in
theorem c_Lv_find (l : Launch) (dC : Nat → ClassId) (dI : Nat → Nat → Nat) (cI cL cZ : ClassId) (ad : Nat → Nat) (K F S D U V : Nat → Int32) (PT : Nat → Int64) (n : Nat) (hn : n ≤ 120) (k f s1 : Int32) : Met l y_Lv_find (cw_Lv_find :: tb) (rmH 1 0 0) (va_Pc [.ref (ad 1), .int k, .int f, .int s1] (ry_P (dC, dI) classes (wLv cI cL ad K F S D U V PT n) (tyI cI cL cZ))) (ry_S ry_i (fun r => r = ff (fun j => decide (K j = k) && decide (F j = f) && decide (S j = s1)) 0 n)) 0 0 (fun _ => False) := by
  refine Met.ofW (cc := b_Lv_find) (maxL := 5) (ret := (some .int)) (by decide +kernel) rfl ?_
  intro p e s m args below meth c s₁ B hml0 hv
  have C0 := cx_of B hml0 rfl
  obtain ⟨hx, hb, hr, hml, hown, htb, hlocks⟩ := id C0
  obtain ⟨rfl, hP, hK⟩ := hv
  have hl := lv_entry ([.ref (ad 1), .int k, .int f, .int s1]) (n := 5) (Nat.le_of_ble_eq_true rfl)
  rw [lg_entry_eq]
  generalize (lg_sl ([.ref (ad 1), .int k, .int f, .int s1]) ++ List.replicate (5 - (lg_sl ([.ref (ad 1), .int k, .int f, .int s1])).length) Slot.unset).toArray = ls at hl ⊢
  have hl : lv_has ls 5 [(0, .ref (ad 1)), (1, .int k), (2, .int f), (3, .int s1)] := hl
  have hP : va_P (dC, dI) classes [((ad 1), .inr (1, [.ref (ad 2), .ref (ad 3), .ref (ad 4), .ref (ad 5), .ref (ad 6), .ref (ad 7), .ref (ad 8), .int (nI n)])), ((ad 2), .inl (cI, 120, .inl K)), ((ad 3), .inl (cI, 120, .inl F)), ((ad 4), .inl (cI, 120, .inl S)), ((ad 5), .inl (cI, 120, .inl D)), ((ad 6), .inl (cI, 120, .inl U)), ((ad 7), .inl (cI, 120, .inl V)), ((ad 8), .inl (cL, 3840, .inr (.inl PT)))] s.heap := hP
  refine lv_iconst (v := 0) hx hb d_Lv_find_0 (by decide) ?_
  refine lv_istore (lv' := [(4, .int 0), (0, .ref (ad 1)), (1, .int k), (2, .int f), (3, .int s1)]) hx hb d_Lv_find_1 hl (by decide) rfl (fun ls hl => ?_)
  refine lp_Lv_find l C0 dC dI cI cL cZ ad K F S D U V PT n hn k f s1 hK hP (ff (fun j => decide (K j = k) && decide (F j = f) && decide (S j = s1)) 0 n) (fun i ls hi hR hl => ?_) (fun i ls hR hl => ?_) n 0 (by omega) rfl ls (lv_sub hl [1, 2, 3, 4, 0] rfl)
  · refine lv_iload hx hb d_Lv_find_45 (lv_at hl 4 rfl) ?_
    exact W.iret (v := (nI i)) hx hb hr (fun t ht hW => ⟨(nI i), rfl, hR.symm, ht⟩) (fun _ h => by cases h) d_Lv_find_47
  · refine lv_iconst (v := (-1)) hx hb d_Lv_find_54 (by decide) ?_
    exact W.iret (v := (-1)) hx hb hr (fun t ht hW => ⟨(-1), rfl, hR.symm, ht⟩) (fun _ h => by cases h) d_Lv_find_55

set_option maxHeartbeats 4000000 in
set_option maxRecDepth 100000 in
theorem lp_Lv_firstRegionAbove {p : Program} (l : Launch) {e : Env} {s : State} {m : MethodId} {args : Array Value} {below : List Frame} {meth : Method} {c : Code} {H : Heap} {locs : List Loc} {Q : State → Prop} (C0 : cx p s m args meth c b_Lv_firstRegionAbove 4 (some .int) R_Lv) (dC : Nat → ClassId) (dI : Nat → Nat → Nat) (cI cL cZ : ClassId) (ad : Nat → Nat) (K F S D U V : Nat → Int32) (PT : Nat → Int64) (n : Nat) (hn : n ≤ 120) (x y : Nat) (hx1 : x < 120) (hy1 : y < 120) (b1 b2 : Nat → Nat → Nat) (hb1 : ∀ g, byt (b1 g)) (hb2 : ∀ g, byt (b2 g)) (e1 : ∀ g, g < 32 → PT (x * 32 + g) = en (b1 g)) (e2 : ∀ g, g < 32 → PT (y * 32 + g) = en (b2 g)) (hK : va_K (dC, dI) classes (tyI cI cL cZ) s) (hP : va_P (dC, dI) classes [((ad 1), .inr (1, [.ref (ad 2), .ref (ad 3), .ref (ad 4), .ref (ad 5), .ref (ad 6), .ref (ad 7), .ref (ad 8), .int (nI n)])), ((ad 2), .inl (cI, 120, .inl K)), ((ad 3), .inl (cI, 120, .inl F)), ((ad 4), .inl (cI, 120, .inl S)), ((ad 5), .inl (cI, 120, .inl D)), ((ad 6), .inl (cI, 120, .inl U)), ((ad 7), .inl (cI, 120, .inl V)), ((ad 8), .inl (cL, 3840, .inr (.inl PT)))] H) (R : Int32)
    (KA : ∀ (i : Nat) (ls : Array Slot), i < 32 → R = nI i → lv_has ls 4 [(0, .ref (ad 1)), (1, .int (nI x)), (2, .int (nI y)), (3, .int (nI i))] → W p l e (rmH 4 0 0) s m args below meth c H locs 0 0 Q (F0 m 26 ls [])) (KB : ∀ (i : Nat) (ls : Array Slot), R = -1 → lv_has ls 4 [(0, .ref (ad 1)), (1, .int (nI x)), (2, .int (nI y)), (3, .int (nI i))] → W p l e (rmH 4 0 0) s m args below meth c H locs 0 0 Q (F0 m 34 ls [])) :
    ∀ (q i : Nat), i + q = 32 → R = ff (fun g => !decide (lh (b1 g) (b2 g) = -1 ∧ b1 g 5 ≤ vo (b2 g) + 1)) i q → ∀ (ls : Array Slot), lv_has ls 4 [(0, .ref (ad 1)), (1, .int (nI x)), (2, .int (nI y)), (3, .int (nI i))] → W p l e (rmH 4 0 0) s m args below meth c H locs 0 0 Q (F0 m 2 ls []) := by
  obtain ⟨hx, hb, hr, hml, hown, htb, hlocks⟩ := id C0
  intro q
  induction q with
  | zero =>
    intro i hi hR ls hl
    refine lv_iload_n hx hb d_Lv_firstRegionAbove_2 rfl (lv_at hl 3 rfl) ?_
    refine lv_bipush (v := 32) hx hb d_Lv_firstRegionAbove_3 (by decide) ?_
    refine lv_icmp_ge (tgt := 34) hx hb d_Lv_firstRegionAbove_5 (by decide) (fun c_5 => ?_) (fun c_5 => ?_)
    · exact KB i ls hR (lv_sub hl [0, 1, 2, 3] rfl)
    · exact absurd ((nI_leI (a := 32) (b := i) (by decide) (by omega)).mpr (by omega)) c_5
  | succ q ih =>
    intro i hi hR ls hl
    refine lv_iload_n hx hb d_Lv_firstRegionAbove_2 rfl (lv_at hl 3 rfl) ?_
    refine lv_bipush (v := 32) hx hb d_Lv_firstRegionAbove_3 (by decide) ?_
    refine lv_icmp_ge (tgt := 34) hx hb d_Lv_firstRegionAbove_5 (by decide) (fun c_5 => ?_) (fun c_5 => ?_)
    · exact absurd ((nI_leI (a := 32) (b := i) (by decide) (by omega)).mp c_5) (by omega)
    · refine lv_aload_n hx hb d_Lv_firstRegionAbove_8 rfl (lv_at hl 0 rfl) ?_
      refine lv_iload_n hx hb d_Lv_firstRegionAbove_9 rfl (lv_at hl 1 rfl) ?_
      refine lv_iload_n hx hb d_Lv_firstRegionAbove_10 rfl (lv_at hl 3 rfl) ?_
      refine ry_callV (n := 2) (As := [.int (nI x), .int (nI i)]) (rest := []) ⟨hx, hb, hml, hown, htb⟩ (c_Lv_partsIn l dC dI cI cL cZ ad K F S D U V PT n hn x i (by omega) (by omega)) (gV mw_342 mw_343 mw_344 mw_2 mc_Lv_partsIn) rfl rfl (by decide +kernel) ⟨Nat.le_of_ble_eq_true rfl, Nat.le_of_ble_eq_true rfl⟩ hP hK (ci := 1) (q0 := 0) rfl rfl rfl rfl hl.1 rfl (Nat.le_of_ble_eq_true rfl) d_Lv_firstRegionAbove_11 ⟨Nat.zero_le _, Nat.zero_le _⟩ (fun r_1 hr_1 => ?_)
      subst hr_1
      refine W.eq (g2 := F0 m 14 ls [.long (PT (x * 32 + i))]) rfl ?_
      refine lv_aload_n hx hb d_Lv_firstRegionAbove_14 rfl (lv_at hl 0 rfl) ?_
      refine lv_iload_n hx hb d_Lv_firstRegionAbove_15 rfl (lv_at hl 2 rfl) ?_
      refine lv_iload_n hx hb d_Lv_firstRegionAbove_16 rfl (lv_at hl 3 rfl) ?_
      refine ry_callV (n := 2) (As := [.int (nI y), .int (nI i)]) (rest := [.long (PT (x * 32 + i))]) ⟨hx, hb, hml, hown, htb⟩ (c_Lv_partsIn l dC dI cI cL cZ ad K F S D U V PT n hn y i (by omega) (by omega)) (gV mw_342 mw_343 mw_344 mw_2 mc_Lv_partsIn) rfl rfl (by decide +kernel) ⟨Nat.le_of_ble_eq_true rfl, Nat.le_of_ble_eq_true rfl⟩ hP hK (ci := 1) (q0 := 0) rfl rfl rfl rfl hl.1 rfl (Nat.le_of_ble_eq_true rfl) d_Lv_firstRegionAbove_17 ⟨Nat.zero_le _, Nat.zero_le _⟩ (fun r_2 hr_2 => ?_)
      subst hr_2
      refine W.eq (g2 := F0 m 20 ls [.long (PT (y * 32 + i)), .long (PT (x * 32 + i))]) rfl ?_
      rw [e1 i (by omega), e2 i (by omega)]
      refine ry_callS (n := 2) (As := [.long (en (b1 i)), .long (en (b2 i))]) (rest := []) ⟨hx, hb, hml, hown, htb⟩ (c_Pt_areAtMost l (b1 i) (b2 i) (hb1 i) (hb2 i)) (gS mw_462 mw_463 mw_12 mc_Pt_areAtMost) rfl rfl (by decide +kernel) ⟨Nat.le_of_ble_eq_true rfl, Nat.le_of_ble_eq_true rfl⟩ rfl hl.1 rfl (Nat.le_of_ble_eq_true rfl) d_Lv_firstRegionAbove_20 ⟨Nat.zero_le _, Nat.zero_le _⟩ (fun r_3 hr_3 => ?_)
      subst hr_3
      refine W.eq (g2 := F0 m 23 ls [.int (if lh (b1 i) (b2 i) = -1 ∧ b1 i 5 ≤ vo (b2 i) + 1 then 1 else 0)]) rfl ?_
      refine lv_if_ne (tgt := 28) hx hb d_Lv_firstRegionAbove_23 (by decide) (fun c_23 => ?_) (fun c_23 => ?_)
      · refine lv_iinc (v := (nI (i + 1))) (lv' := [(3, .int (nI (i + 1))), (0, .ref (ad 1)), (1, .int (nI x)), (2, .int (nI y))]) hx hb d_Lv_firstRegionAbove_28 hl (k := 3) rfl (nI_1 _) (by decide) rfl (fun ls hl => ?_)
        refine lv_goto (tgt := 2) hx hb d_Lv_firstRegionAbove_31 (by decide) ?_
        exact ih (i + 1) (by omega) (by rw [hR, ff_f (by rw [Bool.not_eq_true', decide_eq_false_iff_not, Decidable.not_not]; exact Decidable.byContradiction fun z => by rw [if_neg z] at c_23; exact absurd rfl c_23)]) ls (lv_sub hl [1, 2, 3, 0] rfl)
      · exact KA i ls (by omega) (by rw [hR, ff_t (by rw [Bool.not_eq_true', decide_eq_false_iff_not]; intro z; rw [if_pos z] at c_23; exact absurd c_23 (by decide))]) (lv_sub hl [0, 1, 2, 3] rfl)

set_option maxHeartbeats 4000000 in
set_option maxRecDepth 100000 in
theorem c_Lv_firstRegionAbove (l : Launch) (dC : Nat → ClassId) (dI : Nat → Nat → Nat) (cI cL cZ : ClassId) (ad : Nat → Nat) (K F S D U V : Nat → Int32) (PT : Nat → Int64) (n : Nat) (hn : n ≤ 120) (x y : Nat) (hx1 : x < 120) (hy1 : y < 120) (b1 b2 : Nat → Nat → Nat) (hb1 : ∀ g, byt (b1 g)) (hb2 : ∀ g, byt (b2 g)) (e1 : ∀ g, g < 32 → PT (x * 32 + g) = en (b1 g)) (e2 : ∀ g, g < 32 → PT (y * 32 + g) = en (b2 g)) : Met l y_Lv_firstRegionAbove (cw_Lv_firstRegionAbove :: tb) (rmH 4 0 0) (va_Pc [.ref (ad 1), .int (nI x), .int (nI y)] (ry_P (dC, dI) classes (wLv cI cL ad K F S D U V PT n) (tyI cI cL cZ))) (ry_S ry_i (fun r => r = ff (fun g => !decide (lh (b1 g) (b2 g) = -1 ∧ b1 g 5 ≤ vo (b2 g) + 1)) 0 32)) 0 0 (fun _ => False) := by
  refine Met.ofW (cc := b_Lv_firstRegionAbove) (maxL := 4) (ret := (some .int)) (by decide +kernel) rfl ?_
  intro p e s m args below meth c s₁ B hml0 hv
  have C0 := cx_of B hml0 rfl
  obtain ⟨hx, hb, hr, hml, hown, htb, hlocks⟩ := id C0
  obtain ⟨rfl, hP, hK⟩ := hv
  have hl := lv_entry ([.ref (ad 1), .int (nI x), .int (nI y)]) (n := 4) (Nat.le_of_ble_eq_true rfl)
  rw [lg_entry_eq]
  generalize (lg_sl ([.ref (ad 1), .int (nI x), .int (nI y)]) ++ List.replicate (4 - (lg_sl ([.ref (ad 1), .int (nI x), .int (nI y)])).length) Slot.unset).toArray = ls at hl ⊢
  have hl : lv_has ls 4 [(0, .ref (ad 1)), (1, .int (nI x)), (2, .int (nI y))] := hl
  have hP : va_P (dC, dI) classes [((ad 1), .inr (1, [.ref (ad 2), .ref (ad 3), .ref (ad 4), .ref (ad 5), .ref (ad 6), .ref (ad 7), .ref (ad 8), .int (nI n)])), ((ad 2), .inl (cI, 120, .inl K)), ((ad 3), .inl (cI, 120, .inl F)), ((ad 4), .inl (cI, 120, .inl S)), ((ad 5), .inl (cI, 120, .inl D)), ((ad 6), .inl (cI, 120, .inl U)), ((ad 7), .inl (cI, 120, .inl V)), ((ad 8), .inl (cL, 3840, .inr (.inl PT)))] s.heap := hP
  refine lv_iconst (v := 0) hx hb d_Lv_firstRegionAbove_0 (by decide) ?_
  refine lv_istore_n (lv' := [(3, .int 0), (0, .ref (ad 1)), (1, .int (nI x)), (2, .int (nI y))]) hx hb d_Lv_firstRegionAbove_1 rfl hl (by decide) rfl (fun ls hl => ?_)
  refine lp_Lv_firstRegionAbove l C0 dC dI cI cL cZ ad K F S D U V PT n hn x y hx1 hy1 b1 b2 hb1 hb2 e1 e2 hK hP (ff (fun g => !decide (lh (b1 g) (b2 g) = -1 ∧ b1 g 5 ≤ vo (b2 g) + 1)) 0 32) (fun i ls hi hR hl => ?_) (fun i ls hR hl => ?_) 32 0 (by omega) rfl ls (lv_sub hl [1, 2, 3, 0] rfl)
  · refine lv_iload_n hx hb d_Lv_firstRegionAbove_26 rfl (lv_at hl 3 rfl) ?_
    exact W.iret (v := (nI i)) hx hb hr (fun t ht hW => ⟨(nI i), rfl, hR.symm, ht⟩) (fun _ h => by cases h) d_Lv_firstRegionAbove_27
  · refine lv_iconst (v := (-1)) hx hb d_Lv_firstRegionAbove_34 (by decide) ?_
    exact W.iret (v := (-1)) hx hb hr (fun t ht hW => ⟨(-1), rfl, hR.symm, ht⟩) (fun _ h => by cases h) d_Lv_firstRegionAbove_35

set_option maxHeartbeats 4000000 in
set_option maxRecDepth 100000 in
theorem lp_Lv_haveSameParts {p : Program} (l : Launch) {e : Env} {s : State} {m : MethodId} {args : Array Value} {below : List Frame} {meth : Method} {c : Code} {H : Heap} {locs : List Loc} {Q : State → Prop} (C0 : cx p s m args meth c b_Lv_haveSameParts 4 (some .boolean) R_Lv) (dC : Nat → ClassId) (dI : Nat → Nat → Nat) (cI cL cZ : ClassId) (ad : Nat → Nat) (K F S D U V : Nat → Int32) (PT : Nat → Int64) (n : Nat) (hn : n ≤ 120) (x y : Nat) (hx1 : x < 120) (hy1 : y < 120) (hK : va_K (dC, dI) classes (tyI cI cL cZ) s) (hP : va_P (dC, dI) classes [((ad 1), .inr (1, [.ref (ad 2), .ref (ad 3), .ref (ad 4), .ref (ad 5), .ref (ad 6), .ref (ad 7), .ref (ad 8), .int (nI n)])), ((ad 2), .inl (cI, 120, .inl K)), ((ad 3), .inl (cI, 120, .inl F)), ((ad 4), .inl (cI, 120, .inl S)), ((ad 5), .inl (cI, 120, .inl D)), ((ad 6), .inl (cI, 120, .inl U)), ((ad 7), .inl (cI, 120, .inl V)), ((ad 8), .inl (cL, 3840, .inr (.inl PT)))] H) (R : Int32)
    (KA : ∀ (i : Nat) (ls : Array Slot), i < 32 → R = nI i → lv_has ls 4 [(0, .ref (ad 1)), (1, .int (nI x)), (2, .int (nI y)), (3, .int (nI i))] → W p l e (rmH 2 0 0) s m args below meth c H locs 0 0 Q (F0 m 24 ls [])) (KB : ∀ (i : Nat) (ls : Array Slot), R = -1 → lv_has ls 4 [(0, .ref (ad 1)), (1, .int (nI x)), (2, .int (nI y)), (3, .int (nI i))] → W p l e (rmH 2 0 0) s m args below meth c H locs 0 0 Q (F0 m 32 ls [])) :
    ∀ (q i : Nat), i + q = 32 → R = ff (fun g => !decide (PT (x * 32 + g) = PT (y * 32 + g))) i q → ∀ (ls : Array Slot), lv_has ls 4 [(0, .ref (ad 1)), (1, .int (nI x)), (2, .int (nI y)), (3, .int (nI i))] → W p l e (rmH 2 0 0) s m args below meth c H locs 0 0 Q (F0 m 2 ls []) := by
  obtain ⟨hx, hb, hr, hml, hown, htb, hlocks⟩ := id C0
  intro q
  induction q with
  | zero =>
    intro i hi hR ls hl
    refine lv_iload_n hx hb d_Lv_haveSameParts_2 rfl (lv_at hl 3 rfl) ?_
    refine lv_bipush (v := 32) hx hb d_Lv_haveSameParts_3 (by decide) ?_
    refine lv_icmp_ge (tgt := 32) hx hb d_Lv_haveSameParts_5 (by decide) (fun c_5 => ?_) (fun c_5 => ?_)
    · exact KB i ls hR (lv_sub hl [0, 1, 2, 3] rfl)
    · exact absurd ((nI_leI (a := 32) (b := i) (by decide) (by omega)).mpr (by omega)) c_5
  | succ q ih =>
    intro i hi hR ls hl
    refine lv_iload_n hx hb d_Lv_haveSameParts_2 rfl (lv_at hl 3 rfl) ?_
    refine lv_bipush (v := 32) hx hb d_Lv_haveSameParts_3 (by decide) ?_
    refine lv_icmp_ge (tgt := 32) hx hb d_Lv_haveSameParts_5 (by decide) (fun c_5 => ?_) (fun c_5 => ?_)
    · exact absurd ((nI_leI (a := 32) (b := i) (by decide) (by omega)).mp c_5) (by omega)
    · refine lv_aload_n hx hb d_Lv_haveSameParts_8 rfl (lv_at hl 0 rfl) ?_
      refine lv_iload_n hx hb d_Lv_haveSameParts_9 rfl (lv_at hl 1 rfl) ?_
      refine lv_iload_n hx hb d_Lv_haveSameParts_10 rfl (lv_at hl 3 rfl) ?_
      refine ry_callV (n := 2) (As := [.int (nI x), .int (nI i)]) (rest := []) ⟨hx, hb, hml, hown, htb⟩ (c_Lv_partsIn l dC dI cI cL cZ ad K F S D U V PT n hn x i (by omega) (by omega)) (gV mw_342 mw_343 mw_344 mw_2 mc_Lv_partsIn) rfl rfl (by decide +kernel) ⟨Nat.le_of_ble_eq_true rfl, Nat.le_of_ble_eq_true rfl⟩ hP hK (ci := 1) (q0 := 0) rfl rfl rfl rfl hl.1 rfl (Nat.le_of_ble_eq_true rfl) d_Lv_haveSameParts_11 ⟨Nat.zero_le _, Nat.zero_le _⟩ (fun r_1 hr_1 => ?_)
      subst hr_1
      refine W.eq (g2 := F0 m 14 ls [.long (PT (x * 32 + i))]) rfl ?_
      refine lv_aload_n hx hb d_Lv_haveSameParts_14 rfl (lv_at hl 0 rfl) ?_
      refine lv_iload_n hx hb d_Lv_haveSameParts_15 rfl (lv_at hl 2 rfl) ?_
      refine lv_iload_n hx hb d_Lv_haveSameParts_16 rfl (lv_at hl 3 rfl) ?_
      refine ry_callV (n := 2) (As := [.int (nI y), .int (nI i)]) (rest := [.long (PT (x * 32 + i))]) ⟨hx, hb, hml, hown, htb⟩ (c_Lv_partsIn l dC dI cI cL cZ ad K F S D U V PT n hn y i (by omega) (by omega)) (gV mw_342 mw_343 mw_344 mw_2 mc_Lv_partsIn) rfl rfl (by decide +kernel) ⟨Nat.le_of_ble_eq_true rfl, Nat.le_of_ble_eq_true rfl⟩ hP hK (ci := 1) (q0 := 0) rfl rfl rfl rfl hl.1 rfl (Nat.le_of_ble_eq_true rfl) d_Lv_haveSameParts_17 ⟨Nat.zero_le _, Nat.zero_le _⟩ (fun r_2 hr_2 => ?_)
      subst hr_2
      refine W.eq (g2 := F0 m 20 ls [.long (PT (y * 32 + i)), .long (PT (x * 32 + i))]) rfl ?_
      refine W.lcmp hx hb d_Lv_haveSameParts_20 ?_
      refine lv_if_eq (tgt := 26) hx hb d_Lv_haveSameParts_21 (by decide) (fun c_21 => ?_) (fun c_21 => ?_)
      · refine lv_iinc (v := (nI (i + 1))) (lv' := [(3, .int (nI (i + 1))), (0, .ref (ad 1)), (1, .int (nI x)), (2, .int (nI y))]) hx hb d_Lv_haveSameParts_26 hl (k := 3) rfl (nI_1 _) (by decide) rfl (fun ls hl => ?_)
        refine lv_goto (tgt := 2) hx hb d_Lv_haveSameParts_29 (by decide) ?_
        exact ih (i + 1) (by omega) (by rw [hR, ff_f (by rw [Bool.not_eq_true', decide_eq_false_iff_not, Decidable.not_not]; exact lg_cmp0.mp c_21)]) ls (lv_sub hl [1, 2, 3, 0] rfl)
      · exact KA i ls (by omega) (by rw [hR, ff_t (by rw [Bool.not_eq_true', decide_eq_false_iff_not]; exact fun z => c_21 (lg_cmp0.mpr z))]) (lv_sub hl [0, 1, 2, 3] rfl)

set_option maxHeartbeats 4000000 in
set_option maxRecDepth 100000 in
theorem c_Lv_haveSameParts (l : Launch) (dC : Nat → ClassId) (dI : Nat → Nat → Nat) (cI cL cZ : ClassId) (ad : Nat → Nat) (K F S D U V : Nat → Int32) (PT : Nat → Int64) (n : Nat) (hn : n ≤ 120) (x y : Nat) (hx1 : x < 120) (hy1 : y < 120) : Met l y_Lv_haveSameParts (cw_Lv_haveSameParts :: tb) (rmH 2 0 0) (va_Pc [.ref (ad 1), .int (nI x), .int (nI y)] (ry_P (dC, dI) classes (wLv cI cL ad K F S D U V PT n) (tyI cI cL cZ))) (ry_S ry_i (fun r => r = if ff (fun g => !decide (PT (x * 32 + g) = PT (y * 32 + g))) 0 32 = -1 then 1 else 0)) 0 0 (fun _ => False) := by
  refine Met.ofW (cc := b_Lv_haveSameParts) (maxL := 4) (ret := (some .boolean)) (by decide +kernel) rfl ?_
  intro p e s m args below meth c s₁ B hml0 hv
  have C0 := cx_of B hml0 rfl
  obtain ⟨hx, hb, hr, hml, hown, htb, hlocks⟩ := id C0
  obtain ⟨rfl, hP, hK⟩ := hv
  have hl := lv_entry ([.ref (ad 1), .int (nI x), .int (nI y)]) (n := 4) (Nat.le_of_ble_eq_true rfl)
  rw [lg_entry_eq]
  generalize (lg_sl ([.ref (ad 1), .int (nI x), .int (nI y)]) ++ List.replicate (4 - (lg_sl ([.ref (ad 1), .int (nI x), .int (nI y)])).length) Slot.unset).toArray = ls at hl ⊢
  have hl : lv_has ls 4 [(0, .ref (ad 1)), (1, .int (nI x)), (2, .int (nI y))] := hl
  have hP : va_P (dC, dI) classes [((ad 1), .inr (1, [.ref (ad 2), .ref (ad 3), .ref (ad 4), .ref (ad 5), .ref (ad 6), .ref (ad 7), .ref (ad 8), .int (nI n)])), ((ad 2), .inl (cI, 120, .inl K)), ((ad 3), .inl (cI, 120, .inl F)), ((ad 4), .inl (cI, 120, .inl S)), ((ad 5), .inl (cI, 120, .inl D)), ((ad 6), .inl (cI, 120, .inl U)), ((ad 7), .inl (cI, 120, .inl V)), ((ad 8), .inl (cL, 3840, .inr (.inl PT)))] s.heap := hP
  refine lv_iconst (v := 0) hx hb d_Lv_haveSameParts_0 (by decide) ?_
  refine lv_istore_n (lv' := [(3, .int 0), (0, .ref (ad 1)), (1, .int (nI x)), (2, .int (nI y))]) hx hb d_Lv_haveSameParts_1 rfl hl (by decide) rfl (fun ls hl => ?_)
  refine lp_Lv_haveSameParts l C0 dC dI cI cL cZ ad K F S D U V PT n hn x y hx1 hy1 hK hP (ff (fun g => !decide (PT (x * 32 + g) = PT (y * 32 + g))) 0 32) (fun i ls hi hR hl => ?_) (fun i ls hR hl => ?_) 32 0 (by omega) rfl ls (lv_sub hl [1, 2, 3, 0] rfl)
  · refine lv_iconst (v := 0) hx hb d_Lv_haveSameParts_24 (by decide) ?_
    exact W.zret (v := 0) hx hb hr rfl (fun t ht hW => ⟨0, rfl, (by rw [if_neg (by rw [hR]; exact nI_m1 (by omega))]), ht⟩) (fun _ h => by cases h) d_Lv_haveSameParts_25
  · refine lv_iconst (v := 1) hx hb d_Lv_haveSameParts_32 (by decide) ?_
    exact W.zret (v := 1) hx hb hr rfl (fun t ht hW => ⟨1, rfl, (by rw [if_pos hR]), ht⟩) (fun _ h => by cases h) d_Lv_haveSameParts_33

set_option maxHeartbeats 4000000 in
set_option maxRecDepth 100000 in
theorem lp_Lv_leastLike {p : Program} (l : Launch) {e : Env} {s : State} {m : MethodId} {args : Array Value} {below : List Frame} {meth : Method} {c : Code} {H : Heap} {locs : List Loc} {Q : State → Prop} (C0 : cx p s m args meth c b_Lv_leastLike 3 (some .int) R_Lv) (dC : Nat → ClassId) (dI : Nat → Nat → Nat) (cI cL cZ : ClassId) (ad : Nat → Nat) (K F S D U V : Nat → Int32) (PT : Nat → Int64) (n : Nat) (hn : n ≤ 120) (x : Nat) (hx1 : x < 120) (hK : va_K (dC, dI) classes (tyI cI cL cZ) s) (hP : va_P (dC, dI) classes [((ad 1), .inr (1, [.ref (ad 2), .ref (ad 3), .ref (ad 4), .ref (ad 5), .ref (ad 6), .ref (ad 7), .ref (ad 8), .int (nI n)])), ((ad 2), .inl (cI, 120, .inl K)), ((ad 3), .inl (cI, 120, .inl F)), ((ad 4), .inl (cI, 120, .inl S)), ((ad 5), .inl (cI, 120, .inl D)), ((ad 6), .inl (cI, 120, .inl U)), ((ad 7), .inl (cI, 120, .inl V)), ((ad 8), .inl (cL, 3840, .inr (.inl PT)))] H) (R : Int32)
    (KA : ∀ (i : Nat) (ls : Array Slot), i < x → R = nI i → lv_has ls 3 [(0, .ref (ad 1)), (1, .int (nI x)), (2, .int (nI i))] → W p l e (rmH 3 0 0) s m args below meth c H locs 0 0 Q (F0 m 16 ls [])) (KB : ∀ (i : Nat) (ls : Array Slot), R = -1 → lv_has ls 3 [(0, .ref (ad 1)), (1, .int (nI x)), (2, .int (nI i))] → W p l e (rmH 3 0 0) s m args below meth c H locs 0 0 Q (F0 m 24 ls [])) :
    ∀ (q i : Nat), i + q = x → R = ff (fun q => decide (ff (fun g => !decide (PT (q * 32 + g) = PT (x * 32 + g))) 0 32 = -1)) i q → ∀ (ls : Array Slot), lv_has ls 3 [(0, .ref (ad 1)), (1, .int (nI x)), (2, .int (nI i))] → W p l e (rmH 3 0 0) s m args below meth c H locs 0 0 Q (F0 m 2 ls []) := by
  obtain ⟨hx, hb, hr, hml, hown, htb, hlocks⟩ := id C0
  intro q
  induction q with
  | zero =>
    intro i hi hR ls hl
    refine lv_iload_n hx hb d_Lv_leastLike_2 rfl (lv_at hl 2 rfl) ?_
    refine lv_iload_n hx hb d_Lv_leastLike_3 rfl (lv_at hl 1 rfl) ?_
    refine lv_icmp_ge (tgt := 24) hx hb d_Lv_leastLike_4 (by decide) (fun c_4 => ?_) (fun c_4 => ?_)
    · exact KB i ls hR (lv_sub hl [0, 1, 2] rfl)
    · exact absurd ((nI_leI (a := x) (b := i) (by omega) (by omega)).mpr (by omega)) c_4
  | succ q ih =>
    intro i hi hR ls hl
    refine lv_iload_n hx hb d_Lv_leastLike_2 rfl (lv_at hl 2 rfl) ?_
    refine lv_iload_n hx hb d_Lv_leastLike_3 rfl (lv_at hl 1 rfl) ?_
    refine lv_icmp_ge (tgt := 24) hx hb d_Lv_leastLike_4 (by decide) (fun c_4 => ?_) (fun c_4 => ?_)
    · exact absurd ((nI_leI (a := x) (b := i) (by omega) (by omega)).mp c_4) (by omega)
    · refine lv_aload_n hx hb d_Lv_leastLike_7 rfl (lv_at hl 0 rfl) ?_
      refine lv_iload_n hx hb d_Lv_leastLike_8 rfl (lv_at hl 2 rfl) ?_
      refine lv_iload_n hx hb d_Lv_leastLike_9 rfl (lv_at hl 1 rfl) ?_
      refine ry_callV (n := 2) (As := [.int (nI i), .int (nI x)]) (rest := []) ⟨hx, hb, hml, hown, htb⟩ (c_Lv_haveSameParts l dC dI cI cL cZ ad K F S D U V PT n hn i x (by omega) (by omega)) (gV mw_493 mw_479 mw_480 mw_2 mc_Lv_haveSameParts) rfl rfl (by decide +kernel) ⟨Nat.le_of_ble_eq_true rfl, Nat.le_of_ble_eq_true rfl⟩ hP hK (ci := 1) (q0 := 0) rfl rfl rfl rfl hl.1 rfl (Nat.le_of_ble_eq_true rfl) d_Lv_leastLike_10 ⟨Nat.zero_le _, Nat.zero_le _⟩ (fun r_1 hr_1 => ?_)
      subst hr_1
      refine W.eq (g2 := F0 m 13 ls [.int (if ff (fun g => !decide (PT (i * 32 + g) = PT (x * 32 + g))) 0 32 = -1 then 1 else 0)]) rfl ?_
      refine lv_if_eq (tgt := 18) hx hb d_Lv_leastLike_13 (by decide) (fun c_13 => ?_) (fun c_13 => ?_)
      · refine lv_iinc (v := (nI (i + 1))) (lv' := [(2, .int (nI (i + 1))), (0, .ref (ad 1)), (1, .int (nI x))]) hx hb d_Lv_leastLike_18 hl (k := 2) rfl (nI_1 _) (by decide) rfl (fun ls hl => ?_)
        refine lv_goto (tgt := 2) hx hb d_Lv_leastLike_21 (by decide) ?_
        exact ih (i + 1) (by omega) (by rw [hR, ff_f (by rw [decide_eq_true_iff]; intro z; rw [if_pos z] at c_13; exact absurd c_13 (by decide))]) ls (lv_sub hl [1, 2, 0] rfl)
      · exact KA i ls (by omega) (by rw [hR, ff_t (by rw [decide_eq_true_iff]; exact Decidable.byContradiction fun z => by rw [if_neg z] at c_13; exact absurd rfl c_13)]) (lv_sub hl [0, 1, 2] rfl)

set_option maxHeartbeats 4000000 in
set_option maxRecDepth 100000 in
theorem c_Lv_leastLike (l : Launch) (dC : Nat → ClassId) (dI : Nat → Nat → Nat) (cI cL cZ : ClassId) (ad : Nat → Nat) (K F S D U V : Nat → Int32) (PT : Nat → Int64) (n : Nat) (hn : n ≤ 120) (x : Nat) (hx1 : x < 120) : Met l y_Lv_leastLike (cw_Lv_leastLike :: tb) (rmH 3 0 0) (va_Pc [.ref (ad 1), .int (nI x)] (ry_P (dC, dI) classes (wLv cI cL ad K F S D U V PT n) (tyI cI cL cZ))) (ry_S ry_i (fun r => r = if ff (fun q => decide (ff (fun g => !decide (PT (q * 32 + g) = PT (x * 32 + g))) 0 32 = -1)) 0 x = -1 then nI x else ff (fun q => decide (ff (fun g => !decide (PT (q * 32 + g) = PT (x * 32 + g))) 0 32 = -1)) 0 x)) 0 0 (fun _ => False) := by
  refine Met.ofW (cc := b_Lv_leastLike) (maxL := 3) (ret := (some .int)) (by decide +kernel) rfl ?_
  intro p e s m args below meth c s₁ B hml0 hv
  have C0 := cx_of B hml0 rfl
  obtain ⟨hx, hb, hr, hml, hown, htb, hlocks⟩ := id C0
  obtain ⟨rfl, hP, hK⟩ := hv
  have hl := lv_entry ([.ref (ad 1), .int (nI x)]) (n := 3) (Nat.le_of_ble_eq_true rfl)
  rw [lg_entry_eq]
  generalize (lg_sl ([.ref (ad 1), .int (nI x)]) ++ List.replicate (3 - (lg_sl ([.ref (ad 1), .int (nI x)])).length) Slot.unset).toArray = ls at hl ⊢
  have hl : lv_has ls 3 [(0, .ref (ad 1)), (1, .int (nI x))] := hl
  have hP : va_P (dC, dI) classes [((ad 1), .inr (1, [.ref (ad 2), .ref (ad 3), .ref (ad 4), .ref (ad 5), .ref (ad 6), .ref (ad 7), .ref (ad 8), .int (nI n)])), ((ad 2), .inl (cI, 120, .inl K)), ((ad 3), .inl (cI, 120, .inl F)), ((ad 4), .inl (cI, 120, .inl S)), ((ad 5), .inl (cI, 120, .inl D)), ((ad 6), .inl (cI, 120, .inl U)), ((ad 7), .inl (cI, 120, .inl V)), ((ad 8), .inl (cL, 3840, .inr (.inl PT)))] s.heap := hP
  refine lv_iconst (v := 0) hx hb d_Lv_leastLike_0 (by decide) ?_
  refine lv_istore_n (lv' := [(2, .int 0), (0, .ref (ad 1)), (1, .int (nI x))]) hx hb d_Lv_leastLike_1 rfl hl (by decide) rfl (fun ls hl => ?_)
  refine lp_Lv_leastLike l C0 dC dI cI cL cZ ad K F S D U V PT n hn x hx1 hK hP (ff (fun q => decide (ff (fun g => !decide (PT (q * 32 + g) = PT (x * 32 + g))) 0 32 = -1)) 0 x) (fun i ls hi hR hl => ?_) (fun i ls hR hl => ?_) x 0 (by omega) rfl ls (lv_sub hl [1, 2, 0] rfl)
  · refine lv_iload_n hx hb d_Lv_leastLike_16 rfl (lv_at hl 2 rfl) ?_
    exact W.iret (v := (nI i)) hx hb hr (fun t ht hW => ⟨(nI i), rfl, (by rw [if_neg (by rw [hR]; exact nI_m1 (by omega)), hR]), ht⟩) (fun _ h => by cases h) d_Lv_leastLike_17
  · refine lv_iload_n hx hb d_Lv_leastLike_24 rfl (lv_at hl 1 rfl) ?_
    exact W.iret (v := (nI x)) hx hb hr (fun t ht hW => ⟨(nI x), rfl, (by rw [if_pos hR]), ht⟩) (fun _ h => by cases h) d_Lv_leastLike_25
end
section
/-! What a level is made of: kind k, first a (or parameter), second b; what follows from its parts. -/
def dA (k x y : Nat) : Nat := if k < 2 then 0 else if k = 2 then x + 1 else max x y
def uA (k a x y : Nat) : Nat := if k = 1 then 2 ^ a else if k = 2 then x else if 3 ≤ k then x ||| y else 0
def sg (i : Nat) : Nat → Nat := fun q => if q = i then 1 else 0
def pA (g k a : Nat) (X Y : Nat → Nat) : Nat → Nat := if k = 1 then (if g / 2 ^ a % 2 = 1 then sg a else sg 5) else if k = 2 then ra X else if k = 3 then jn X Y else if k = 4 then (if Y 5 = 1 then Y else jn X Y) else sg 5
def vA (k v x y : Nat) : Nat := if k = 1 then v else if k = 2 then x + 1 else if k = 3 then max x y else if k = 4 then (if y = 0 then 0 else max x y) else 0
/-- a parameter's number in a row of numbers -/
def pvN (v : Int64) (a : Nat) : Nat := v.toBitVec.toNat / 4096 ^ a % 4096
theorem pvN_lt (v : Int64) (a : Nat) : pvN v a < 4096 := Nat.mod_lt _ (by decide)
theorem pv_eq (v : Int64) {a : Nat} (ha : a < 5) : ((v.toUInt64 >>> ((nI a * 12 : Int32).toInt64.toUInt64 &&& Int64.toUInt64 63)).toInt64.toInt32 &&& 4095 : Int32) = nI (pvN v a) := by
  obtain ⟨n, hn, rfl⟩ := wb_of v
  rw [show (nI a * 12 : Int32) = nI (a * 12) from pk_mul a 12, wb_shr hn (by omega), lN_i]
  rw [pk_and _ 12 (by decide)]
  unfold pvN
  rw [wb_tn hn]
  congr 1
  show (BitVec.ofNat 32 (n / 2 ^ (a * 12))).toNat % 2 ^ 12 = _
  rw [BitVec.toNat_ofNat, Nat.mod_mod_of_dvd _ (by decide), Nat.pow_mul', show (2 : Nat) ^ 12 = 4096 from rfl]
theorem sg_byt {i : Nat} : byt (sg i) := fun q _ => by unfold sg; split <;> omega
theorem en_sg : ∀ i, i < 6 → lN (1 * 256 ^ i) = en (sg i) := fun i hi => by
  rcases six_cases hi with rfl | rfl | rfl | rfl | rfl | rfl <;> decide +kernel
theorem or32 : ∀ x, x < 32 → ∀ y, y < 32 → (nI x ||| nI y : Int32) = nI (x ||| y) := by decide +kernel
theorem shl5 : ∀ a, a < 5 → ((1 : Int32) <<< (nI a &&& 31)) = nI (2 ^ a) := by decide +kernel
theorem bit5 : ∀ g, g < 32 → ∀ a, a < 5 → ((((nI g) >>> (nI a &&& 31)) &&& 1) = (0 : Int32) ↔ ¬ g / 2 ^ a % 2 = 1) := by decide +kernel
end
section
set_option maxHeartbeats 4000000 in
set_option maxRecDepth 100000 in
theorem c_Lv_nextsOf (l : Launch) (dC : Nat → ClassId) (dI : Nat → Nat → Nat) (cI cL cZ : ClassId) (ad : Nat → Nat) (K F S D U V : Nat → Int32) (PT : Nat → Int64) (n : Nat) (hn : n ≤ 120) (j : Nat) (hj : j < 120) (k a b : Nat) (hk4 : k ≤ 4) (hk : K j = nI k) (hf : 1 ≤ k → F j = nI a) (hs1 : 3 ≤ k → S j = nI b) (hp : k = 1 → a < 5) (ha : 2 ≤ k → a < 120) (hb1 : 3 ≤ k → b < 120) (x y : Nat) (hx2 : 2 ≤ k → D a = nI x) (hy2 : 3 ≤ k → D b = nI y) (hx3 : x < 1000) (hy3 : y < 1000) : Met l y_Lv_nextsOf (cw_Lv_nextsOf :: tb) (rmH 2 0 0) (va_Pc [.ref (ad 1), .int (nI j)] (ry_P (dC, dI) classes (wLv cI cL ad K F S D U V PT n) (tyI cI cL cZ))) (ry_S ry_i (fun r => r = nI (dA k x y))) 0 0 (fun _ => False) := by
  refine Met.ofW (cc := b_Lv_nextsOf) (maxL := 2) (ret := (some .int)) (by decide +kernel) rfl ?_
  intro p e s m args below meth c s₁ B hml0 hv
  have C0 := cx_of B hml0 rfl
  obtain ⟨hx, hb, hr, hml, hown, htb, hlocks⟩ := id C0
  obtain ⟨rfl, hP, hK⟩ := hv
  have hl := lv_entry ([.ref (ad 1), .int (nI j)]) (n := 2) (Nat.le_of_ble_eq_true rfl)
  rw [lg_entry_eq]
  generalize (lg_sl ([.ref (ad 1), .int (nI j)]) ++ List.replicate (2 - (lg_sl ([.ref (ad 1), .int (nI j)])).length) Slot.unset).toArray = ls at hl ⊢
  have hl : lv_has ls 2 [(0, .ref (ad 1)), (1, .int (nI j))] := hl
  have hP : va_P (dC, dI) classes [((ad 1), .inr (1, [.ref (ad 2), .ref (ad 3), .ref (ad 4), .ref (ad 5), .ref (ad 6), .ref (ad 7), .ref (ad 8), .int (nI n)])), ((ad 2), .inl (cI, 120, .inl K)), ((ad 3), .inl (cI, 120, .inl F)), ((ad 4), .inl (cI, 120, .inl S)), ((ad 5), .inl (cI, 120, .inl D)), ((ad 6), .inl (cI, 120, .inl U)), ((ad 7), .inl (cI, 120, .inl V)), ((ad 8), .inl (cL, 3840, .inr (.inl PT)))] s.heap := hP
  refine lv_aload_n hx hb d_Lv_nextsOf_0 rfl (lv_at hl 0 rfl) ?_
  refine va_get (D := (dC, dI)) (ci := 1) (v := .ref (ad 2)) (C := R_Lv) (T := F_Lv) (N := 8) hx hb htb ul_Lv hown hK hP 0 rfl rfl 0 (by decide) (htb _ mw_29) (fun _ h9 => h9) rfl d_Lv_nextsOf_1 ?_
  refine lv_iload_n hx hb d_Lv_nextsOf_4 rfl (lv_at hl 1 rfl) ?_
  refine ry_iald (D := (dC, dI)) (j := j) hx hb hK hP 1 0 rfl rfl (by omega) (by decide) d_Lv_nextsOf_5 ?_
  rcases (show k = 0 ∨ k = 1 ∨ k = 2 ∨ k = 3 ∨ k = 4 by omega) with rfl | rfl | rfl | rfl | rfl
  · refine lv_tableOut (tgt := 72) hx hb d_Lv_nextsOf_6 (by rw [hk]; decide) (by decide) ?_
    refine lv_iconst (v := 0) hx hb d_Lv_nextsOf_72 (by decide) ?_
    exact W.iret (v := 0) hx hb hr (fun t ht hW => ⟨0, rfl, rfl, ht⟩) (fun _ h => by cases h) d_Lv_nextsOf_73
  · refine lv_tableOut (tgt := 72) hx hb d_Lv_nextsOf_6 (by rw [hk]; decide) (by decide) ?_
    have hf := hf (by decide)
    have hp := hp rfl
    refine lv_iconst (v := 0) hx hb d_Lv_nextsOf_72 (by decide) ?_
    exact W.iret (v := 0) hx hb hr (fun t ht hW => ⟨0, rfl, rfl, ht⟩) (fun _ h => by cases h) d_Lv_nextsOf_73
  · refine lv_tableIn (off := 26) (tgt := 32) hx hb d_Lv_nextsOf_6 (by rw [hk]; decide) (by rw [hk]; decide) (by rw [hk]; decide) (by decide) ?_
    have hf := hf (by decide)
    have ha := ha (by decide)
    have hx2 := hx2 (by decide)
    refine lv_aload_n hx hb d_Lv_nextsOf_32 rfl (lv_at hl 0 rfl) ?_
    refine va_get (D := (dC, dI)) (ci := 1) (v := .ref (ad 5)) (C := R_Lv) (T := F_Lv) (N := 8) hx hb htb ul_Lv hown hK hP 0 rfl rfl 3 (by decide) (htb _ mw_32) (fun _ h9 => h9) rfl d_Lv_nextsOf_33 ?_
    refine lv_aload_n hx hb d_Lv_nextsOf_36 rfl (lv_at hl 0 rfl) ?_
    refine va_get (D := (dC, dI)) (ci := 1) (v := .ref (ad 3)) (C := R_Lv) (T := F_Lv) (N := 8) hx hb htb ul_Lv hown hK hP 0 rfl rfl 1 (by decide) (htb _ mw_30) (fun _ h9 => h9) rfl d_Lv_nextsOf_37 ?_
    refine lv_iload_n hx hb d_Lv_nextsOf_40 rfl (lv_at hl 1 rfl) ?_
    refine ry_iald (D := (dC, dI)) (j := j) hx hb hK hP 2 0 rfl rfl (by omega) (by decide) d_Lv_nextsOf_41 ?_
    rw [hf]
    refine ry_iald (D := (dC, dI)) (j := a) hx hb hK hP 4 0 rfl rfl (by omega) (by decide) d_Lv_nextsOf_42 ?_
    rw [hx2]
    refine lv_iconst (v := 1) hx hb d_Lv_nextsOf_43 (by decide) ?_
    refine lv_iadd hx hb d_Lv_nextsOf_44 ?_
    exact W.iret (v := ((nI x) + 1)) hx hb hr (fun t ht hW => ⟨((nI x) + 1), rfl, (nI_1 x), ht⟩) (fun _ h => by cases h) d_Lv_nextsOf_45
  · refine lv_tableIn (off := 40) (tgt := 46) hx hb d_Lv_nextsOf_6 (by rw [hk]; decide) (by rw [hk]; decide) (by rw [hk]; decide) (by decide) ?_
    have hf := hf (by decide)
    have hs1 := hs1 (by decide)
    have ha := ha (by decide)
    have hb1 := hb1 (by decide)
    have hx2 := hx2 (by decide)
    have hy2 := hy2 (by decide)
    refine lv_aload_n hx hb d_Lv_nextsOf_46 rfl (lv_at hl 0 rfl) ?_
    refine va_get (D := (dC, dI)) (ci := 1) (v := .ref (ad 5)) (C := R_Lv) (T := F_Lv) (N := 8) hx hb htb ul_Lv hown hK hP 0 rfl rfl 3 (by decide) (htb _ mw_32) (fun _ h9 => h9) rfl d_Lv_nextsOf_47 ?_
    refine lv_aload_n hx hb d_Lv_nextsOf_50 rfl (lv_at hl 0 rfl) ?_
    refine va_get (D := (dC, dI)) (ci := 1) (v := .ref (ad 3)) (C := R_Lv) (T := F_Lv) (N := 8) hx hb htb ul_Lv hown hK hP 0 rfl rfl 1 (by decide) (htb _ mw_30) (fun _ h9 => h9) rfl d_Lv_nextsOf_51 ?_
    refine lv_iload_n hx hb d_Lv_nextsOf_54 rfl (lv_at hl 1 rfl) ?_
    refine ry_iald (D := (dC, dI)) (j := j) hx hb hK hP 2 0 rfl rfl (by omega) (by decide) d_Lv_nextsOf_55 ?_
    rw [hf]
    refine ry_iald (D := (dC, dI)) (j := a) hx hb hK hP 4 0 rfl rfl (by omega) (by decide) d_Lv_nextsOf_56 ?_
    rw [hx2]
    refine lv_aload_n hx hb d_Lv_nextsOf_57 rfl (lv_at hl 0 rfl) ?_
    refine va_get (D := (dC, dI)) (ci := 1) (v := .ref (ad 5)) (C := R_Lv) (T := F_Lv) (N := 8) hx hb htb ul_Lv hown hK hP 0 rfl rfl 3 (by decide) (htb _ mw_32) (fun _ h9 => h9) rfl d_Lv_nextsOf_58 ?_
    refine lv_aload_n hx hb d_Lv_nextsOf_61 rfl (lv_at hl 0 rfl) ?_
    refine va_get (D := (dC, dI)) (ci := 1) (v := .ref (ad 4)) (C := R_Lv) (T := F_Lv) (N := 8) hx hb htb ul_Lv hown hK hP 0 rfl rfl 2 (by decide) (htb _ mw_31) (fun _ h9 => h9) rfl d_Lv_nextsOf_62 ?_
    refine lv_iload_n hx hb d_Lv_nextsOf_65 rfl (lv_at hl 1 rfl) ?_
    refine ry_iald (D := (dC, dI)) (j := j) hx hb hK hP 3 0 rfl rfl (by omega) (by decide) d_Lv_nextsOf_66 ?_
    rw [hs1]
    refine ry_iald (D := (dC, dI)) (j := b) hx hb hK hP 4 0 rfl rfl (by omega) (by decide) d_Lv_nextsOf_67 ?_
    rw [hy2]
    refine va_mmax hx hb (by rw [hml]; exact hl.1.symm) hown (htb _ mw_144) (htb _ mw_145) (htb _ mw_11) (htb _ mc_max) (Nat.le_of_ble_eq_true rfl) (Nat.le_of_ble_eq_true rfl) (Nat.zero_le _) (Nat.zero_le _) d_Lv_nextsOf_68 ?_
    rw [nI_max (by omega) (by omega)]
    exact W.iret (v := (nI (max x y))) hx hb hr (fun t ht hW => ⟨(nI (max x y)), rfl, rfl, ht⟩) (fun _ h => by cases h) d_Lv_nextsOf_71
  · refine lv_tableIn (off := 40) (tgt := 46) hx hb d_Lv_nextsOf_6 (by rw [hk]; decide) (by rw [hk]; decide) (by rw [hk]; decide) (by decide) ?_
    have hf := hf (by decide)
    have hs1 := hs1 (by decide)
    have ha := ha (by decide)
    have hb1 := hb1 (by decide)
    have hx2 := hx2 (by decide)
    have hy2 := hy2 (by decide)
    refine lv_aload_n hx hb d_Lv_nextsOf_46 rfl (lv_at hl 0 rfl) ?_
    refine va_get (D := (dC, dI)) (ci := 1) (v := .ref (ad 5)) (C := R_Lv) (T := F_Lv) (N := 8) hx hb htb ul_Lv hown hK hP 0 rfl rfl 3 (by decide) (htb _ mw_32) (fun _ h9 => h9) rfl d_Lv_nextsOf_47 ?_
    refine lv_aload_n hx hb d_Lv_nextsOf_50 rfl (lv_at hl 0 rfl) ?_
    refine va_get (D := (dC, dI)) (ci := 1) (v := .ref (ad 3)) (C := R_Lv) (T := F_Lv) (N := 8) hx hb htb ul_Lv hown hK hP 0 rfl rfl 1 (by decide) (htb _ mw_30) (fun _ h9 => h9) rfl d_Lv_nextsOf_51 ?_
    refine lv_iload_n hx hb d_Lv_nextsOf_54 rfl (lv_at hl 1 rfl) ?_
    refine ry_iald (D := (dC, dI)) (j := j) hx hb hK hP 2 0 rfl rfl (by omega) (by decide) d_Lv_nextsOf_55 ?_
    rw [hf]
    refine ry_iald (D := (dC, dI)) (j := a) hx hb hK hP 4 0 rfl rfl (by omega) (by decide) d_Lv_nextsOf_56 ?_
    rw [hx2]
    refine lv_aload_n hx hb d_Lv_nextsOf_57 rfl (lv_at hl 0 rfl) ?_
    refine va_get (D := (dC, dI)) (ci := 1) (v := .ref (ad 5)) (C := R_Lv) (T := F_Lv) (N := 8) hx hb htb ul_Lv hown hK hP 0 rfl rfl 3 (by decide) (htb _ mw_32) (fun _ h9 => h9) rfl d_Lv_nextsOf_58 ?_
    refine lv_aload_n hx hb d_Lv_nextsOf_61 rfl (lv_at hl 0 rfl) ?_
    refine va_get (D := (dC, dI)) (ci := 1) (v := .ref (ad 4)) (C := R_Lv) (T := F_Lv) (N := 8) hx hb htb ul_Lv hown hK hP 0 rfl rfl 2 (by decide) (htb _ mw_31) (fun _ h9 => h9) rfl d_Lv_nextsOf_62 ?_
    refine lv_iload_n hx hb d_Lv_nextsOf_65 rfl (lv_at hl 1 rfl) ?_
    refine ry_iald (D := (dC, dI)) (j := j) hx hb hK hP 3 0 rfl rfl (by omega) (by decide) d_Lv_nextsOf_66 ?_
    rw [hs1]
    refine ry_iald (D := (dC, dI)) (j := b) hx hb hK hP 4 0 rfl rfl (by omega) (by decide) d_Lv_nextsOf_67 ?_
    rw [hy2]
    refine va_mmax hx hb (by rw [hml]; exact hl.1.symm) hown (htb _ mw_144) (htb _ mw_145) (htb _ mw_11) (htb _ mc_max) (Nat.le_of_ble_eq_true rfl) (Nat.le_of_ble_eq_true rfl) (Nat.zero_le _) (Nat.zero_le _) d_Lv_nextsOf_68 ?_
    rw [nI_max (by omega) (by omega)]
    exact W.iret (v := (nI (max x y))) hx hb hr (fun t ht hW => ⟨(nI (max x y)), rfl, rfl, ht⟩) (fun _ h => by cases h) d_Lv_nextsOf_71

set_option maxHeartbeats 4000000 in
set_option maxRecDepth 100000 in
theorem c_Lv_usesOf (l : Launch) (dC : Nat → ClassId) (dI : Nat → Nat → Nat) (cI cL cZ : ClassId) (ad : Nat → Nat) (K F S D U V : Nat → Int32) (PT : Nat → Int64) (n : Nat) (hn : n ≤ 120) (j : Nat) (hj : j < 120) (k a b : Nat) (hk4 : k ≤ 4) (hk : K j = nI k) (hf : 1 ≤ k → F j = nI a) (hs1 : 3 ≤ k → S j = nI b) (hp : k = 1 → a < 5) (ha : 2 ≤ k → a < 120) (hb1 : 3 ≤ k → b < 120) (x y : Nat) (hx2 : 2 ≤ k → U a = nI x) (hy2 : 3 ≤ k → U b = nI y) (hx3 : x < 32) (hy3 : y < 32) : Met l y_Lv_usesOf (cw_Lv_usesOf :: tb) (rmH 1 0 0) (va_Pc [.ref (ad 1), .int (nI j)] (ry_P (dC, dI) classes (wLv cI cL ad K F S D U V PT n) (tyI cI cL cZ))) (ry_S ry_i (fun r => r = nI (uA k a x y))) 0 0 (fun _ => False) := by
  refine Met.ofW (cc := b_Lv_usesOf) (maxL := 2) (ret := (some .int)) (by decide +kernel) rfl ?_
  intro p e s m args below meth c s₁ B hml0 hv
  have C0 := cx_of B hml0 rfl
  obtain ⟨hx, hb, hr, hml, hown, htb, hlocks⟩ := id C0
  obtain ⟨rfl, hP, hK⟩ := hv
  have hl := lv_entry ([.ref (ad 1), .int (nI j)]) (n := 2) (Nat.le_of_ble_eq_true rfl)
  rw [lg_entry_eq]
  generalize (lg_sl ([.ref (ad 1), .int (nI j)]) ++ List.replicate (2 - (lg_sl ([.ref (ad 1), .int (nI j)])).length) Slot.unset).toArray = ls at hl ⊢
  have hl : lv_has ls 2 [(0, .ref (ad 1)), (1, .int (nI j))] := hl
  have hP : va_P (dC, dI) classes [((ad 1), .inr (1, [.ref (ad 2), .ref (ad 3), .ref (ad 4), .ref (ad 5), .ref (ad 6), .ref (ad 7), .ref (ad 8), .int (nI n)])), ((ad 2), .inl (cI, 120, .inl K)), ((ad 3), .inl (cI, 120, .inl F)), ((ad 4), .inl (cI, 120, .inl S)), ((ad 5), .inl (cI, 120, .inl D)), ((ad 6), .inl (cI, 120, .inl U)), ((ad 7), .inl (cI, 120, .inl V)), ((ad 8), .inl (cL, 3840, .inr (.inl PT)))] s.heap := hP
  refine lv_aload_n hx hb d_Lv_usesOf_0 rfl (lv_at hl 0 rfl) ?_
  refine va_get (D := (dC, dI)) (ci := 1) (v := .ref (ad 2)) (C := R_Lv) (T := F_Lv) (N := 8) hx hb htb ul_Lv hown hK hP 0 rfl rfl 0 (by decide) (htb _ mw_29) (fun _ h9 => h9) rfl d_Lv_usesOf_1 ?_
  refine lv_iload_n hx hb d_Lv_usesOf_4 rfl (lv_at hl 1 rfl) ?_
  refine ry_iald (D := (dC, dI)) (j := j) hx hb hK hP 1 0 rfl rfl (by omega) (by decide) d_Lv_usesOf_5 ?_
  rcases (show k = 0 ∨ k = 1 ∨ k = 2 ∨ k = 3 ∨ k = 4 by omega) with rfl | rfl | rfl | rfl | rfl
  · refine lv_tableOut (tgt := 81) hx hb d_Lv_usesOf_6 (by rw [hk]; decide) (by decide) ?_
    refine lv_iconst (v := 0) hx hb d_Lv_usesOf_81 (by decide) ?_
    exact W.iret (v := 0) hx hb hr (fun t ht hW => ⟨0, rfl, rfl, ht⟩) (fun _ h => by cases h) d_Lv_usesOf_82
  · refine lv_tableIn (off := 30) (tgt := 36) hx hb d_Lv_usesOf_6 (by rw [hk]; decide) (by rw [hk]; decide) (by rw [hk]; decide) (by decide) ?_
    have hf := hf (by decide)
    have hp := hp rfl
    refine lv_iconst (v := 1) hx hb d_Lv_usesOf_36 (by decide) ?_
    refine lv_aload_n hx hb d_Lv_usesOf_37 rfl (lv_at hl 0 rfl) ?_
    refine va_get (D := (dC, dI)) (ci := 1) (v := .ref (ad 3)) (C := R_Lv) (T := F_Lv) (N := 8) hx hb htb ul_Lv hown hK hP 0 rfl rfl 1 (by decide) (htb _ mw_30) (fun _ h9 => h9) rfl d_Lv_usesOf_38 ?_
    refine lv_iload_n hx hb d_Lv_usesOf_41 rfl (lv_at hl 1 rfl) ?_
    refine ry_iald (D := (dC, dI)) (j := j) hx hb hK hP 2 0 rfl rfl (by omega) (by decide) d_Lv_usesOf_42 ?_
    rw [hf]
    refine lv_ishl hx hb d_Lv_usesOf_43 ?_
    exact W.iret (v := (1 <<< ((nI a) &&& 31))) hx hb hr (fun t ht hW => ⟨(1 <<< ((nI a) &&& 31)), rfl, (shl5 a hp), ht⟩) (fun _ h => by cases h) d_Lv_usesOf_44
  · refine lv_tableIn (off := 39) (tgt := 45) hx hb d_Lv_usesOf_6 (by rw [hk]; decide) (by rw [hk]; decide) (by rw [hk]; decide) (by decide) ?_
    have hf := hf (by decide)
    have ha := ha (by decide)
    have hx2 := hx2 (by decide)
    refine lv_aload_n hx hb d_Lv_usesOf_45 rfl (lv_at hl 0 rfl) ?_
    refine va_get (D := (dC, dI)) (ci := 1) (v := .ref (ad 6)) (C := R_Lv) (T := F_Lv) (N := 8) hx hb htb ul_Lv hown hK hP 0 rfl rfl 4 (by decide) (htb _ mw_33) (fun _ h9 => h9) rfl d_Lv_usesOf_46 ?_
    refine lv_aload_n hx hb d_Lv_usesOf_49 rfl (lv_at hl 0 rfl) ?_
    refine va_get (D := (dC, dI)) (ci := 1) (v := .ref (ad 3)) (C := R_Lv) (T := F_Lv) (N := 8) hx hb htb ul_Lv hown hK hP 0 rfl rfl 1 (by decide) (htb _ mw_30) (fun _ h9 => h9) rfl d_Lv_usesOf_50 ?_
    refine lv_iload_n hx hb d_Lv_usesOf_53 rfl (lv_at hl 1 rfl) ?_
    refine ry_iald (D := (dC, dI)) (j := j) hx hb hK hP 2 0 rfl rfl (by omega) (by decide) d_Lv_usesOf_54 ?_
    rw [hf]
    refine ry_iald (D := (dC, dI)) (j := a) hx hb hK hP 5 0 rfl rfl (by omega) (by decide) d_Lv_usesOf_55 ?_
    rw [hx2]
    exact W.iret (v := (nI x)) hx hb hr (fun t ht hW => ⟨(nI x), rfl, rfl, ht⟩) (fun _ h => by cases h) d_Lv_usesOf_56
  · refine lv_tableIn (off := 51) (tgt := 57) hx hb d_Lv_usesOf_6 (by rw [hk]; decide) (by rw [hk]; decide) (by rw [hk]; decide) (by decide) ?_
    have hf := hf (by decide)
    have hs1 := hs1 (by decide)
    have ha := ha (by decide)
    have hb1 := hb1 (by decide)
    have hx2 := hx2 (by decide)
    have hy2 := hy2 (by decide)
    refine lv_aload_n hx hb d_Lv_usesOf_57 rfl (lv_at hl 0 rfl) ?_
    refine va_get (D := (dC, dI)) (ci := 1) (v := .ref (ad 6)) (C := R_Lv) (T := F_Lv) (N := 8) hx hb htb ul_Lv hown hK hP 0 rfl rfl 4 (by decide) (htb _ mw_33) (fun _ h9 => h9) rfl d_Lv_usesOf_58 ?_
    refine lv_aload_n hx hb d_Lv_usesOf_61 rfl (lv_at hl 0 rfl) ?_
    refine va_get (D := (dC, dI)) (ci := 1) (v := .ref (ad 3)) (C := R_Lv) (T := F_Lv) (N := 8) hx hb htb ul_Lv hown hK hP 0 rfl rfl 1 (by decide) (htb _ mw_30) (fun _ h9 => h9) rfl d_Lv_usesOf_62 ?_
    refine lv_iload_n hx hb d_Lv_usesOf_65 rfl (lv_at hl 1 rfl) ?_
    refine ry_iald (D := (dC, dI)) (j := j) hx hb hK hP 2 0 rfl rfl (by omega) (by decide) d_Lv_usesOf_66 ?_
    rw [hf]
    refine ry_iald (D := (dC, dI)) (j := a) hx hb hK hP 5 0 rfl rfl (by omega) (by decide) d_Lv_usesOf_67 ?_
    rw [hx2]
    refine lv_aload_n hx hb d_Lv_usesOf_68 rfl (lv_at hl 0 rfl) ?_
    refine va_get (D := (dC, dI)) (ci := 1) (v := .ref (ad 6)) (C := R_Lv) (T := F_Lv) (N := 8) hx hb htb ul_Lv hown hK hP 0 rfl rfl 4 (by decide) (htb _ mw_33) (fun _ h9 => h9) rfl d_Lv_usesOf_69 ?_
    refine lv_aload_n hx hb d_Lv_usesOf_72 rfl (lv_at hl 0 rfl) ?_
    refine va_get (D := (dC, dI)) (ci := 1) (v := .ref (ad 4)) (C := R_Lv) (T := F_Lv) (N := 8) hx hb htb ul_Lv hown hK hP 0 rfl rfl 2 (by decide) (htb _ mw_31) (fun _ h9 => h9) rfl d_Lv_usesOf_73 ?_
    refine lv_iload_n hx hb d_Lv_usesOf_76 rfl (lv_at hl 1 rfl) ?_
    refine ry_iald (D := (dC, dI)) (j := j) hx hb hK hP 3 0 rfl rfl (by omega) (by decide) d_Lv_usesOf_77 ?_
    rw [hs1]
    refine ry_iald (D := (dC, dI)) (j := b) hx hb hK hP 5 0 rfl rfl (by omega) (by decide) d_Lv_usesOf_78 ?_
    rw [hy2]
    refine lv_ior hx hb d_Lv_usesOf_79 ?_
    exact W.iret (v := ((nI x) ||| (nI y))) hx hb hr (fun t ht hW => ⟨((nI x) ||| (nI y)), rfl, (or32 x hx3 y hy3), ht⟩) (fun _ h => by cases h) d_Lv_usesOf_80
  · refine lv_tableIn (off := 51) (tgt := 57) hx hb d_Lv_usesOf_6 (by rw [hk]; decide) (by rw [hk]; decide) (by rw [hk]; decide) (by decide) ?_
    have hf := hf (by decide)
    have hs1 := hs1 (by decide)
    have ha := ha (by decide)
    have hb1 := hb1 (by decide)
    have hx2 := hx2 (by decide)
    have hy2 := hy2 (by decide)
    refine lv_aload_n hx hb d_Lv_usesOf_57 rfl (lv_at hl 0 rfl) ?_
    refine va_get (D := (dC, dI)) (ci := 1) (v := .ref (ad 6)) (C := R_Lv) (T := F_Lv) (N := 8) hx hb htb ul_Lv hown hK hP 0 rfl rfl 4 (by decide) (htb _ mw_33) (fun _ h9 => h9) rfl d_Lv_usesOf_58 ?_
    refine lv_aload_n hx hb d_Lv_usesOf_61 rfl (lv_at hl 0 rfl) ?_
    refine va_get (D := (dC, dI)) (ci := 1) (v := .ref (ad 3)) (C := R_Lv) (T := F_Lv) (N := 8) hx hb htb ul_Lv hown hK hP 0 rfl rfl 1 (by decide) (htb _ mw_30) (fun _ h9 => h9) rfl d_Lv_usesOf_62 ?_
    refine lv_iload_n hx hb d_Lv_usesOf_65 rfl (lv_at hl 1 rfl) ?_
    refine ry_iald (D := (dC, dI)) (j := j) hx hb hK hP 2 0 rfl rfl (by omega) (by decide) d_Lv_usesOf_66 ?_
    rw [hf]
    refine ry_iald (D := (dC, dI)) (j := a) hx hb hK hP 5 0 rfl rfl (by omega) (by decide) d_Lv_usesOf_67 ?_
    rw [hx2]
    refine lv_aload_n hx hb d_Lv_usesOf_68 rfl (lv_at hl 0 rfl) ?_
    refine va_get (D := (dC, dI)) (ci := 1) (v := .ref (ad 6)) (C := R_Lv) (T := F_Lv) (N := 8) hx hb htb ul_Lv hown hK hP 0 rfl rfl 4 (by decide) (htb _ mw_33) (fun _ h9 => h9) rfl d_Lv_usesOf_69 ?_
    refine lv_aload_n hx hb d_Lv_usesOf_72 rfl (lv_at hl 0 rfl) ?_
    refine va_get (D := (dC, dI)) (ci := 1) (v := .ref (ad 4)) (C := R_Lv) (T := F_Lv) (N := 8) hx hb htb ul_Lv hown hK hP 0 rfl rfl 2 (by decide) (htb _ mw_31) (fun _ h9 => h9) rfl d_Lv_usesOf_73 ?_
    refine lv_iload_n hx hb d_Lv_usesOf_76 rfl (lv_at hl 1 rfl) ?_
    refine ry_iald (D := (dC, dI)) (j := j) hx hb hK hP 3 0 rfl rfl (by omega) (by decide) d_Lv_usesOf_77 ?_
    rw [hs1]
    refine ry_iald (D := (dC, dI)) (j := b) hx hb hK hP 5 0 rfl rfl (by omega) (by decide) d_Lv_usesOf_78 ?_
    rw [hy2]
    refine lv_ior hx hb d_Lv_usesOf_79 ?_
    exact W.iret (v := ((nI x) ||| (nI y))) hx hb hr (fun t ht hW => ⟨((nI x) ||| (nI y)), rfl, (or32 x hx3 y hy3), ht⟩) (fun _ h => by cases h) d_Lv_usesOf_80

set_option maxHeartbeats 4000000 in
set_option maxRecDepth 100000 in
theorem c_Lv_partsOf (l : Launch) (dC : Nat → ClassId) (dI : Nat → Nat → Nat) (cI cL cZ : ClassId) (ad : Nat → Nat) (K F S D U V : Nat → Int32) (PT : Nat → Int64) (n : Nat) (hn : n ≤ 120) (j : Nat) (hj : j < 120) (k a b : Nat) (hk4 : k ≤ 4) (hk : K j = nI k) (hf : 1 ≤ k → F j = nI a) (hs1 : 3 ≤ k → S j = nI b) (hp : k = 1 → a < 5) (ha : 2 ≤ k → a < 120) (hb1 : 3 ≤ k → b < 120) (g : Nat) (hg : g < 32) (X Y : Nat → Nat) (bX : byt X) (bY : byt Y) (lX : ∀ i, i < 6 → X i < 127) (hX : 2 ≤ k → PT (a * 32 + g) = en X) (hY : 3 ≤ k → PT (b * 32 + g) = en Y) : Met l y_Lv_partsOf (cw_Lv_partsOf :: tb) (rmH 4 0 0) (va_Pc [.ref (ad 1), .int (nI j), .int (nI g)] (ry_P (dC, dI) classes (wLv cI cL ad K F S D U V PT n) (tyI cI cL cZ))) (ry_S ry_l (fun r => r = en (pA g k a X Y))) 0 0 (fun _ => False) := by
  refine Met.ofW (cc := b_Lv_partsOf) (maxL := 5) (ret := (some .long)) (by decide +kernel) rfl ?_
  intro p e s m args below meth c s₁ B hml0 hv
  have C0 := cx_of B hml0 rfl
  obtain ⟨hx, hb, hr, hml, hown, htb, hlocks⟩ := id C0
  obtain ⟨rfl, hP, hK⟩ := hv
  have hl := lv_entry ([.ref (ad 1), .int (nI j), .int (nI g)]) (n := 5) (Nat.le_of_ble_eq_true rfl)
  rw [lg_entry_eq]
  generalize (lg_sl ([.ref (ad 1), .int (nI j), .int (nI g)]) ++ List.replicate (5 - (lg_sl ([.ref (ad 1), .int (nI j), .int (nI g)])).length) Slot.unset).toArray = ls at hl ⊢
  have hl : lv_has ls 5 [(0, .ref (ad 1)), (1, .int (nI j)), (2, .int (nI g))] := hl
  have hP : va_P (dC, dI) classes [((ad 1), .inr (1, [.ref (ad 2), .ref (ad 3), .ref (ad 4), .ref (ad 5), .ref (ad 6), .ref (ad 7), .ref (ad 8), .int (nI n)])), ((ad 2), .inl (cI, 120, .inl K)), ((ad 3), .inl (cI, 120, .inl F)), ((ad 4), .inl (cI, 120, .inl S)), ((ad 5), .inl (cI, 120, .inl D)), ((ad 6), .inl (cI, 120, .inl U)), ((ad 7), .inl (cI, 120, .inl V)), ((ad 8), .inl (cL, 3840, .inr (.inl PT)))] s.heap := hP
  refine lv_aload_n hx hb d_Lv_partsOf_0 rfl (lv_at hl 0 rfl) ?_
  refine va_get (D := (dC, dI)) (ci := 1) (v := .ref (ad 2)) (C := R_Lv) (T := F_Lv) (N := 8) hx hb htb ul_Lv hown hK hP 0 rfl rfl 0 (by decide) (htb _ mw_29) (fun _ h9 => h9) rfl d_Lv_partsOf_1 ?_
  refine lv_iload_n hx hb d_Lv_partsOf_4 rfl (lv_at hl 1 rfl) ?_
  refine ry_iald (D := (dC, dI)) (j := j) hx hb hK hP 1 0 rfl rfl (by omega) (by decide) d_Lv_partsOf_5 ?_
  rcases (show k = 0 ∨ k = 1 ∨ k = 2 ∨ k = 3 ∨ k = 4 by omega) with rfl | rfl | rfl | rfl | rfl
  · refine lv_tableOut (tgt := 144) hx hb d_Lv_partsOf_6 (by rw [hk]; decide) (by decide) ?_
    refine lv_iconst (v := 5) hx hb d_Lv_partsOf_144 (by decide) ?_
    refine lv_iconst (v := 0) hx hb d_Lv_partsOf_145 (by decide) ?_
    refine ry_callS (n := 2) (As := [.int 5, .int (nI 1 - 1)]) (rest := []) ⟨hx, hb, hml, hown, htb⟩ (c_Pt_only l 5 1 (by omega) (by decide)) (gS mw_339 mw_340 mw_12 mc_Pt_only) rfl rfl (by decide +kernel) ⟨Nat.le_of_ble_eq_true rfl, Nat.le_of_ble_eq_true rfl⟩ rfl hl.1 rfl (Nat.le_of_ble_eq_true rfl) d_Lv_partsOf_146 ⟨Nat.zero_le _, Nat.zero_le _⟩ (fun r_1 hr_1 => ?_)
    subst hr_1
    refine W.eq (g2 := F0 m 149 ls [.long (lN (1 * 256 ^ 5))]) rfl ?_
    rw [en_sg 5 (by omega)]
    exact W.lret (v := (en (sg 5))) hx hb hr (fun t ht hW => ⟨(en (sg 5)), rfl, rfl, ht⟩) (fun _ h => by cases h) d_Lv_partsOf_149
  · refine lv_tableIn (off := 30) (tgt := 36) hx hb d_Lv_partsOf_6 (by rw [hk]; decide) (by rw [hk]; decide) (by rw [hk]; decide) (by decide) ?_
    have hf := hf (by decide)
    have hp := hp rfl
    refine lv_iload_n hx hb d_Lv_partsOf_36 rfl (lv_at hl 2 rfl) ?_
    refine lv_aload_n hx hb d_Lv_partsOf_37 rfl (lv_at hl 0 rfl) ?_
    refine va_get (D := (dC, dI)) (ci := 1) (v := .ref (ad 3)) (C := R_Lv) (T := F_Lv) (N := 8) hx hb htb ul_Lv hown hK hP 0 rfl rfl 1 (by decide) (htb _ mw_30) (fun _ h9 => h9) rfl d_Lv_partsOf_38 ?_
    refine lv_iload_n hx hb d_Lv_partsOf_41 rfl (lv_at hl 1 rfl) ?_
    refine ry_iald (D := (dC, dI)) (j := j) hx hb hK hP 2 0 rfl rfl (by omega) (by decide) d_Lv_partsOf_42 ?_
    rw [hf]
    refine lv_ishr hx hb d_Lv_partsOf_43 ?_
    refine lv_iconst (v := 1) hx hb d_Lv_partsOf_44 (by decide) ?_
    refine lv_iand hx hb d_Lv_partsOf_45 ?_
    refine lv_if_eq (tgt := 58) hx hb d_Lv_partsOf_46 (by decide) (fun c_46 => ?_) (fun c_46 => ?_)
    · refine lv_iconst (v := 5) hx hb d_Lv_partsOf_58 (by decide) ?_
      refine lv_iconst (v := 0) hx hb d_Lv_partsOf_59 (by decide) ?_
      refine ry_callS (n := 2) (As := [.int 5, .int (nI 1 - 1)]) (rest := []) ⟨hx, hb, hml, hown, htb⟩ (c_Pt_only l 5 1 (by omega) (by decide)) (gS mw_339 mw_340 mw_12 mc_Pt_only) rfl rfl (by decide +kernel) ⟨Nat.le_of_ble_eq_true rfl, Nat.le_of_ble_eq_true rfl⟩ rfl hl.1 rfl (Nat.le_of_ble_eq_true rfl) d_Lv_partsOf_60 ⟨Nat.zero_le _, Nat.zero_le _⟩ (fun r_2 hr_2 => ?_)
      subst hr_2
      refine W.eq (g2 := F0 m 63 ls [.long (lN (1 * 256 ^ 5))]) rfl ?_
      rw [en_sg 5 (by omega)]
      exact W.lret (v := (en (sg 5))) hx hb hr (fun t ht hW => ⟨(en (sg 5)), rfl, (by rw [pA, if_pos rfl, if_neg ((bit5 g hg a hp).mp c_46)]), ht⟩) (fun _ h => by cases h) d_Lv_partsOf_63
    · refine lv_aload_n hx hb d_Lv_partsOf_49 rfl (lv_at hl 0 rfl) ?_
      refine va_get (D := (dC, dI)) (ci := 1) (v := .ref (ad 3)) (C := R_Lv) (T := F_Lv) (N := 8) hx hb htb ul_Lv hown hK hP 0 rfl rfl 1 (by decide) (htb _ mw_30) (fun _ h9 => h9) rfl d_Lv_partsOf_50 ?_
      refine lv_iload_n hx hb d_Lv_partsOf_53 rfl (lv_at hl 1 rfl) ?_
      refine ry_iald (D := (dC, dI)) (j := j) hx hb hK hP 2 0 rfl rfl (by omega) (by decide) d_Lv_partsOf_54 ?_
      rw [hf]
      refine lv_goto (tgt := 59) hx hb d_Lv_partsOf_55 (by decide) ?_
      refine lv_iconst (v := 0) hx hb d_Lv_partsOf_59 (by decide) ?_
      refine ry_callS (n := 2) (As := [.int (nI a), .int (nI 1 - 1)]) (rest := []) ⟨hx, hb, hml, hown, htb⟩ (c_Pt_only l a 1 (by omega) (by decide)) (gS mw_339 mw_340 mw_12 mc_Pt_only) rfl rfl (by decide +kernel) ⟨Nat.le_of_ble_eq_true rfl, Nat.le_of_ble_eq_true rfl⟩ rfl hl.1 rfl (Nat.le_of_ble_eq_true rfl) d_Lv_partsOf_60 ⟨Nat.zero_le _, Nat.zero_le _⟩ (fun r_3 hr_3 => ?_)
      subst hr_3
      refine W.eq (g2 := F0 m 63 ls [.long (lN (1 * 256 ^ a))]) rfl ?_
      rw [en_sg a (by omega)]
      exact W.lret (v := (en (sg a))) hx hb hr (fun t ht hW => ⟨(en (sg a)), rfl, (by rw [pA, if_pos rfl, if_pos (Decidable.byContradiction fun z => c_46 ((bit5 g hg a hp).mpr z))]), ht⟩) (fun _ h => by cases h) d_Lv_partsOf_63
  · refine lv_tableIn (off := 58) (tgt := 64) hx hb d_Lv_partsOf_6 (by rw [hk]; decide) (by rw [hk]; decide) (by rw [hk]; decide) (by decide) ?_
    have hf := hf (by decide)
    have ha := ha (by decide)
    have hX := hX (by decide)
    refine lv_aload_n hx hb d_Lv_partsOf_64 rfl (lv_at hl 0 rfl) ?_
    refine lv_aload_n hx hb d_Lv_partsOf_65 rfl (lv_at hl 0 rfl) ?_
    refine va_get (D := (dC, dI)) (ci := 1) (v := .ref (ad 3)) (C := R_Lv) (T := F_Lv) (N := 8) hx hb htb ul_Lv hown hK hP 0 rfl rfl 1 (by decide) (htb _ mw_30) (fun _ h9 => h9) rfl d_Lv_partsOf_66 ?_
    refine lv_iload_n hx hb d_Lv_partsOf_69 rfl (lv_at hl 1 rfl) ?_
    refine ry_iald (D := (dC, dI)) (j := j) hx hb hK hP 2 0 rfl rfl (by omega) (by decide) d_Lv_partsOf_70 ?_
    rw [hf]
    refine lv_iload_n hx hb d_Lv_partsOf_71 rfl (lv_at hl 2 rfl) ?_
    refine ry_callV (n := 2) (As := [.int (nI a), .int (nI g)]) (rest := []) ⟨hx, hb, hml, hown, htb⟩ (c_Lv_partsIn l dC dI cI cL cZ ad K F S D U V PT n hn a g (by omega) (by omega)) (gV mw_342 mw_343 mw_344 mw_2 mc_Lv_partsIn) rfl rfl (by decide +kernel) ⟨Nat.le_of_ble_eq_true rfl, Nat.le_of_ble_eq_true rfl⟩ hP hK (ci := 1) (q0 := 0) rfl rfl rfl rfl hl.1 rfl (Nat.le_of_ble_eq_true rfl) d_Lv_partsOf_72 ⟨Nat.zero_le _, Nat.zero_le _⟩ (fun r_4 hr_4 => ?_)
    subst hr_4
    refine W.eq (g2 := F0 m 75 ls [.long (PT (a * 32 + g))]) rfl ?_
    rw [hX]
    refine ry_callS (n := 1) (As := [.long (en X)]) (rest := []) ⟨hx, hb, hml, hown, htb⟩ (c_Pt_raised l X bX (fun i hi => by have := lX i hi; omega)) (gS mw_346 mw_347 mw_12 mc_Pt_raised) rfl rfl (by decide +kernel) ⟨Nat.le_of_ble_eq_true rfl, Nat.le_of_ble_eq_true rfl⟩ rfl hl.1 rfl (Nat.le_of_ble_eq_true rfl) d_Lv_partsOf_75 ⟨Nat.zero_le _, Nat.zero_le _⟩ (fun r_5 hr_5 => ?_)
    subst hr_5
    refine W.eq (g2 := F0 m 78 ls [.long (en (ra X))]) rfl ?_
    exact W.lret (v := (en (ra X))) hx hb hr (fun t ht hW => ⟨(en (ra X)), rfl, rfl, ht⟩) (fun _ h => by cases h) d_Lv_partsOf_78
  · refine lv_tableIn (off := 73) (tgt := 79) hx hb d_Lv_partsOf_6 (by rw [hk]; decide) (by rw [hk]; decide) (by rw [hk]; decide) (by decide) ?_
    have hf := hf (by decide)
    have hs1 := hs1 (by decide)
    have ha := ha (by decide)
    have hb1 := hb1 (by decide)
    have hX := hX (by decide)
    have hY := hY (by decide)
    refine lv_aload_n hx hb d_Lv_partsOf_79 rfl (lv_at hl 0 rfl) ?_
    refine lv_aload_n hx hb d_Lv_partsOf_80 rfl (lv_at hl 0 rfl) ?_
    refine va_get (D := (dC, dI)) (ci := 1) (v := .ref (ad 3)) (C := R_Lv) (T := F_Lv) (N := 8) hx hb htb ul_Lv hown hK hP 0 rfl rfl 1 (by decide) (htb _ mw_30) (fun _ h9 => h9) rfl d_Lv_partsOf_81 ?_
    refine lv_iload_n hx hb d_Lv_partsOf_84 rfl (lv_at hl 1 rfl) ?_
    refine ry_iald (D := (dC, dI)) (j := j) hx hb hK hP 2 0 rfl rfl (by omega) (by decide) d_Lv_partsOf_85 ?_
    rw [hf]
    refine lv_iload_n hx hb d_Lv_partsOf_86 rfl (lv_at hl 2 rfl) ?_
    refine ry_callV (n := 2) (As := [.int (nI a), .int (nI g)]) (rest := []) ⟨hx, hb, hml, hown, htb⟩ (c_Lv_partsIn l dC dI cI cL cZ ad K F S D U V PT n hn a g (by omega) (by omega)) (gV mw_342 mw_343 mw_344 mw_2 mc_Lv_partsIn) rfl rfl (by decide +kernel) ⟨Nat.le_of_ble_eq_true rfl, Nat.le_of_ble_eq_true rfl⟩ hP hK (ci := 1) (q0 := 0) rfl rfl rfl rfl hl.1 rfl (Nat.le_of_ble_eq_true rfl) d_Lv_partsOf_87 ⟨Nat.zero_le _, Nat.zero_le _⟩ (fun r_6 hr_6 => ?_)
    subst hr_6
    refine W.eq (g2 := F0 m 90 ls [.long (PT (a * 32 + g))]) rfl ?_
    rw [hX]
    refine lv_aload_n hx hb d_Lv_partsOf_90 rfl (lv_at hl 0 rfl) ?_
    refine lv_aload_n hx hb d_Lv_partsOf_91 rfl (lv_at hl 0 rfl) ?_
    refine va_get (D := (dC, dI)) (ci := 1) (v := .ref (ad 4)) (C := R_Lv) (T := F_Lv) (N := 8) hx hb htb ul_Lv hown hK hP 0 rfl rfl 2 (by decide) (htb _ mw_31) (fun _ h9 => h9) rfl d_Lv_partsOf_92 ?_
    refine lv_iload_n hx hb d_Lv_partsOf_95 rfl (lv_at hl 1 rfl) ?_
    refine ry_iald (D := (dC, dI)) (j := j) hx hb hK hP 3 0 rfl rfl (by omega) (by decide) d_Lv_partsOf_96 ?_
    rw [hs1]
    refine lv_iload_n hx hb d_Lv_partsOf_97 rfl (lv_at hl 2 rfl) ?_
    refine ry_callV (n := 2) (As := [.int (nI b), .int (nI g)]) (rest := [.long (en X)]) ⟨hx, hb, hml, hown, htb⟩ (c_Lv_partsIn l dC dI cI cL cZ ad K F S D U V PT n hn b g (by omega) (by omega)) (gV mw_342 mw_343 mw_344 mw_2 mc_Lv_partsIn) rfl rfl (by decide +kernel) ⟨Nat.le_of_ble_eq_true rfl, Nat.le_of_ble_eq_true rfl⟩ hP hK (ci := 1) (q0 := 0) rfl rfl rfl rfl hl.1 rfl (Nat.le_of_ble_eq_true rfl) d_Lv_partsOf_98 ⟨Nat.zero_le _, Nat.zero_le _⟩ (fun r_7 hr_7 => ?_)
    subst hr_7
    refine W.eq (g2 := F0 m 101 ls [.long (PT (b * 32 + g)), .long (en X)]) rfl ?_
    rw [hY]
    refine ry_callS (n := 2) (As := [.long (en X), .long (en Y)]) (rest := []) ⟨hx, hb, hml, hown, htb⟩ (c_Pt_joined l X Y bX bY) (gS mw_354 mw_355 mw_12 mc_Pt_joined) rfl rfl (by decide +kernel) ⟨Nat.le_of_ble_eq_true rfl, Nat.le_of_ble_eq_true rfl⟩ rfl hl.1 rfl (Nat.le_of_ble_eq_true rfl) d_Lv_partsOf_101 ⟨Nat.zero_le _, Nat.zero_le _⟩ (fun r_8 hr_8 => ?_)
    subst hr_8
    refine W.eq (g2 := F0 m 104 ls [.long (en (jn X Y))]) rfl ?_
    exact W.lret (v := (en (jn X Y))) hx hb hr (fun t ht hW => ⟨(en (jn X Y)), rfl, rfl, ht⟩) (fun _ h => by cases h) d_Lv_partsOf_104
  · refine lv_tableIn (off := 99) (tgt := 105) hx hb d_Lv_partsOf_6 (by rw [hk]; decide) (by rw [hk]; decide) (by rw [hk]; decide) (by decide) ?_
    have hf := hf (by decide)
    have hs1 := hs1 (by decide)
    have ha := ha (by decide)
    have hb1 := hb1 (by decide)
    have hX := hX (by decide)
    have hY := hY (by decide)
    refine lv_aload_n hx hb d_Lv_partsOf_105 rfl (lv_at hl 0 rfl) ?_
    refine lv_aload_n hx hb d_Lv_partsOf_106 rfl (lv_at hl 0 rfl) ?_
    refine va_get (D := (dC, dI)) (ci := 1) (v := .ref (ad 4)) (C := R_Lv) (T := F_Lv) (N := 8) hx hb htb ul_Lv hown hK hP 0 rfl rfl 2 (by decide) (htb _ mw_31) (fun _ h9 => h9) rfl d_Lv_partsOf_107 ?_
    refine lv_iload_n hx hb d_Lv_partsOf_110 rfl (lv_at hl 1 rfl) ?_
    refine ry_iald (D := (dC, dI)) (j := j) hx hb hK hP 3 0 rfl rfl (by omega) (by decide) d_Lv_partsOf_111 ?_
    rw [hs1]
    refine lv_iload_n hx hb d_Lv_partsOf_112 rfl (lv_at hl 2 rfl) ?_
    refine ry_callV (n := 2) (As := [.int (nI b), .int (nI g)]) (rest := []) ⟨hx, hb, hml, hown, htb⟩ (c_Lv_partsIn l dC dI cI cL cZ ad K F S D U V PT n hn b g (by omega) (by omega)) (gV mw_342 mw_343 mw_344 mw_2 mc_Lv_partsIn) rfl rfl (by decide +kernel) ⟨Nat.le_of_ble_eq_true rfl, Nat.le_of_ble_eq_true rfl⟩ hP hK (ci := 1) (q0 := 0) rfl rfl rfl rfl hl.1 rfl (Nat.le_of_ble_eq_true rfl) d_Lv_partsOf_113 ⟨Nat.zero_le _, Nat.zero_le _⟩ (fun r_9 hr_9 => ?_)
    subst hr_9
    refine W.eq (g2 := F0 m 116 ls [.long (PT (b * 32 + g))]) rfl ?_
    rw [hY]
    refine lv_lstore_n (lv' := [(3, .long (en Y)), (0, .ref (ad 1)), (1, .int (nI j)), (2, .int (nI g))]) hx hb d_Lv_partsOf_116 rfl hl (by decide) rfl (fun ls hl => ?_)
    refine lv_lload_n hx hb d_Lv_partsOf_117 rfl (lv_at hl 0 rfl) ?_
    refine ry_callS (n := 1) (As := [.long (en Y)]) (rest := []) ⟨hx, hb, hml, hown, htb⟩ (c_Pt_vanish l Y bY) (gS mw_358 mw_359 mw_12 mc_Pt_vanish) rfl rfl (by decide +kernel) ⟨Nat.le_of_ble_eq_true rfl, Nat.le_of_ble_eq_true rfl⟩ rfl hl.1 rfl (Nat.le_of_ble_eq_true rfl) d_Lv_partsOf_118 ⟨Nat.zero_le _, Nat.zero_le _⟩ (fun r_10 hr_10 => ?_)
    subst hr_10
    refine W.eq (g2 := F0 m 121 ls [.int (if Y 5 = 1 then 1 else 0)]) rfl ?_
    refine lv_if_eq (tgt := 128) hx hb d_Lv_partsOf_121 (by decide) (fun c_121 => ?_) (fun c_121 => ?_)
    · refine lv_aload_n hx hb d_Lv_partsOf_128 rfl (lv_at hl 1 rfl) ?_
      refine lv_aload_n hx hb d_Lv_partsOf_129 rfl (lv_at hl 1 rfl) ?_
      refine va_get (D := (dC, dI)) (ci := 1) (v := .ref (ad 3)) (C := R_Lv) (T := F_Lv) (N := 8) hx hb htb ul_Lv hown hK hP 0 rfl rfl 1 (by decide) (htb _ mw_30) (fun _ h9 => h9) rfl d_Lv_partsOf_130 ?_
      refine lv_iload_n hx hb d_Lv_partsOf_133 rfl (lv_at hl 2 rfl) ?_
      refine ry_iald (D := (dC, dI)) (j := j) hx hb hK hP 2 0 rfl rfl (by omega) (by decide) d_Lv_partsOf_134 ?_
      rw [hf]
      refine lv_iload_n hx hb d_Lv_partsOf_135 rfl (lv_at hl 3 rfl) ?_
      refine ry_callV (n := 2) (As := [.int (nI a), .int (nI g)]) (rest := []) ⟨hx, hb, hml, hown, htb⟩ (c_Lv_partsIn l dC dI cI cL cZ ad K F S D U V PT n hn a g (by omega) (by omega)) (gV mw_342 mw_343 mw_344 mw_2 mc_Lv_partsIn) rfl rfl (by decide +kernel) ⟨Nat.le_of_ble_eq_true rfl, Nat.le_of_ble_eq_true rfl⟩ hP hK (ci := 1) (q0 := 0) rfl rfl rfl rfl hl.1 rfl (Nat.le_of_ble_eq_true rfl) d_Lv_partsOf_136 ⟨Nat.zero_le _, Nat.zero_le _⟩ (fun r_11 hr_11 => ?_)
      subst hr_11
      refine W.eq (g2 := F0 m 139 ls [.long (PT (a * 32 + g))]) rfl ?_
      rw [hX]
      refine lv_lload_n hx hb d_Lv_partsOf_139 rfl (lv_at hl 0 rfl) ?_
      refine ry_callS (n := 2) (As := [.long (en X), .long (en Y)]) (rest := []) ⟨hx, hb, hml, hown, htb⟩ (c_Pt_joined l X Y bX bY) (gS mw_354 mw_355 mw_12 mc_Pt_joined) rfl rfl (by decide +kernel) ⟨Nat.le_of_ble_eq_true rfl, Nat.le_of_ble_eq_true rfl⟩ rfl hl.1 rfl (Nat.le_of_ble_eq_true rfl) d_Lv_partsOf_140 ⟨Nat.zero_le _, Nat.zero_le _⟩ (fun r_12 hr_12 => ?_)
      subst hr_12
      refine W.eq (g2 := F0 m 143 ls [.long (en (jn X Y))]) rfl ?_
      exact W.lret (v := (en (jn X Y))) hx hb hr (fun t ht hW => ⟨(en (jn X Y)), rfl, (by have h9 : ¬ Y 5 = 1 := (fun z => by rw [if_pos z] at c_121; exact absurd c_121 (by decide)); show _ = en (if Y 5 = 1 then Y else jn X Y); rw [if_neg h9]), ht⟩) (fun _ h => by cases h) d_Lv_partsOf_143
    · refine lv_lload_n hx hb d_Lv_partsOf_124 rfl (lv_at hl 0 rfl) ?_
      refine lv_goto (tgt := 143) hx hb d_Lv_partsOf_125 (by decide) ?_
      exact W.lret (v := (en Y)) hx hb hr (fun t ht hW => ⟨(en Y), rfl, (by have h9 : Y 5 = 1 := Decidable.byContradiction (fun z => by rw [if_neg z] at c_121; exact absurd rfl c_121); show _ = en (if Y 5 = 1 then Y else jn X Y); rw [if_pos h9]), ht⟩) (fun _ h => by cases h) d_Lv_partsOf_143

set_option maxHeartbeats 4000000 in
set_option maxRecDepth 100000 in
theorem c_Lv_valueOf (l : Launch) (dC : Nat → ClassId) (dI : Nat → Nat → Nat) (cI cL cZ : ClassId) (ad : Nat → Nat) (K F S D U V : Nat → Int32) (PT : Nat → Int64) (n : Nat) (hn : n ≤ 120) (j : Nat) (hj : j < 120) (k a b : Nat) (hk4 : k ≤ 4) (hk : K j = nI k) (hf : 1 ≤ k → F j = nI a) (hs1 : 3 ≤ k → S j = nI b) (hp : k = 1 → a < 5) (ha : 2 ≤ k → a < 120) (hb1 : 3 ≤ k → b < 120) (v : Int64) (x y : Nat) (hx2 : 2 ≤ k → V a = nI x) (hy2 : 3 ≤ k → V b = nI y) (hx3 : x < 900000) (hy3 : y < 900000) : Met l y_Lv_valueOf (cw_Lv_valueOf :: tb) (rmH 2 0 0) (va_Pc [.ref (ad 1), .int (nI j), .long v] (ry_P (dC, dI) classes (wLv cI cL ad K F S D U V PT n) (tyI cI cL cZ))) (ry_S ry_i (fun r => r = nI (vA k (pvN v a) x y))) 0 0 (fun _ => False) := by
  refine Met.ofW (cc := b_Lv_valueOf) (maxL := 5) (ret := (some .int)) (by decide +kernel) rfl ?_
  intro p e s m args below meth c s₁ B hml0 hv
  have C0 := cx_of B hml0 rfl
  obtain ⟨hx, hb, hr, hml, hown, htb, hlocks⟩ := id C0
  obtain ⟨rfl, hP, hK⟩ := hv
  have hl := lv_entry ([.ref (ad 1), .int (nI j), .long v]) (n := 5) (Nat.le_of_ble_eq_true rfl)
  rw [lg_entry_eq]
  generalize (lg_sl ([.ref (ad 1), .int (nI j), .long v]) ++ List.replicate (5 - (lg_sl ([.ref (ad 1), .int (nI j), .long v])).length) Slot.unset).toArray = ls at hl ⊢
  have hl : lv_has ls 5 [(0, .ref (ad 1)), (1, .int (nI j)), (2, .long v)] := hl
  have hP : va_P (dC, dI) classes [((ad 1), .inr (1, [.ref (ad 2), .ref (ad 3), .ref (ad 4), .ref (ad 5), .ref (ad 6), .ref (ad 7), .ref (ad 8), .int (nI n)])), ((ad 2), .inl (cI, 120, .inl K)), ((ad 3), .inl (cI, 120, .inl F)), ((ad 4), .inl (cI, 120, .inl S)), ((ad 5), .inl (cI, 120, .inl D)), ((ad 6), .inl (cI, 120, .inl U)), ((ad 7), .inl (cI, 120, .inl V)), ((ad 8), .inl (cL, 3840, .inr (.inl PT)))] s.heap := hP
  refine lv_aload_n hx hb d_Lv_valueOf_0 rfl (lv_at hl 0 rfl) ?_
  refine va_get (D := (dC, dI)) (ci := 1) (v := .ref (ad 2)) (C := R_Lv) (T := F_Lv) (N := 8) hx hb htb ul_Lv hown hK hP 0 rfl rfl 0 (by decide) (htb _ mw_29) (fun _ h9 => h9) rfl d_Lv_valueOf_1 ?_
  refine lv_iload_n hx hb d_Lv_valueOf_4 rfl (lv_at hl 1 rfl) ?_
  refine ry_iald (D := (dC, dI)) (j := j) hx hb hK hP 1 0 rfl rfl (by omega) (by decide) d_Lv_valueOf_5 ?_
  rcases (show k = 0 ∨ k = 1 ∨ k = 2 ∨ k = 3 ∨ k = 4 by omega) with rfl | rfl | rfl | rfl | rfl
  · refine lv_tableOut (tgt := 132) hx hb d_Lv_valueOf_6 (by rw [hk]; decide) (by decide) ?_
    refine lv_iconst (v := 0) hx hb d_Lv_valueOf_132 (by decide) ?_
    exact W.iret (v := 0) hx hb hr (fun t ht hW => ⟨0, rfl, rfl, ht⟩) (fun _ h => by cases h) d_Lv_valueOf_133
  · refine lv_tableIn (off := 30) (tgt := 36) hx hb d_Lv_valueOf_6 (by rw [hk]; decide) (by rw [hk]; decide) (by rw [hk]; decide) (by decide) ?_
    have hf := hf (by decide)
    have hp := hp rfl
    refine lv_lload_n hx hb d_Lv_valueOf_36 rfl (lv_at hl 2 rfl) ?_
    refine lv_aload_n hx hb d_Lv_valueOf_37 rfl (lv_at hl 0 rfl) ?_
    refine va_get (D := (dC, dI)) (ci := 1) (v := .ref (ad 3)) (C := R_Lv) (T := F_Lv) (N := 8) hx hb htb ul_Lv hown hK hP 0 rfl rfl 1 (by decide) (htb _ mw_30) (fun _ h9 => h9) rfl d_Lv_valueOf_38 ?_
    refine lv_iload_n hx hb d_Lv_valueOf_41 rfl (lv_at hl 1 rfl) ?_
    refine ry_iald (D := (dC, dI)) (j := j) hx hb hK hP 2 0 rfl rfl (by omega) (by decide) d_Lv_valueOf_42 ?_
    rw [hf]
    refine lv_bipush (v := 12) hx hb d_Lv_valueOf_43 (by decide) ?_
    refine lv_imul hx hb d_Lv_valueOf_45 ?_
    refine lv_lushr hx hb d_Lv_valueOf_46 rfl ?_
    refine lv_l2i hx hb d_Lv_valueOf_47 rfl ?_
    refine lv_sipush (v := 4095) hx hb d_Lv_valueOf_48 (by decide) ?_
    refine lv_iand hx hb d_Lv_valueOf_51 ?_
    exact W.iret (v := ((((v : Int64).toUInt64 >>> ((((nI a) * 12) : Int32).toInt64.toUInt64 &&& Int64.toUInt64 63)).toInt64 : Int64).toInt32 &&& 4095)) hx hb hr (fun t ht hW => ⟨((((v : Int64).toUInt64 >>> ((((nI a) * 12) : Int32).toInt64.toUInt64 &&& Int64.toUInt64 63)).toInt64 : Int64).toInt32 &&& 4095), rfl, (pv_eq v hp), ht⟩) (fun _ h => by cases h) d_Lv_valueOf_52
  · refine lv_tableIn (off := 47) (tgt := 53) hx hb d_Lv_valueOf_6 (by rw [hk]; decide) (by rw [hk]; decide) (by rw [hk]; decide) (by decide) ?_
    have hf := hf (by decide)
    have ha := ha (by decide)
    have hx2 := hx2 (by decide)
    refine lv_aload_n hx hb d_Lv_valueOf_53 rfl (lv_at hl 0 rfl) ?_
    refine va_get (D := (dC, dI)) (ci := 1) (v := .ref (ad 7)) (C := R_Lv) (T := F_Lv) (N := 8) hx hb htb ul_Lv hown hK hP 0 rfl rfl 5 (by decide) (htb _ mw_34) (fun _ h9 => h9) rfl d_Lv_valueOf_54 ?_
    refine lv_aload_n hx hb d_Lv_valueOf_57 rfl (lv_at hl 0 rfl) ?_
    refine va_get (D := (dC, dI)) (ci := 1) (v := .ref (ad 3)) (C := R_Lv) (T := F_Lv) (N := 8) hx hb htb ul_Lv hown hK hP 0 rfl rfl 1 (by decide) (htb _ mw_30) (fun _ h9 => h9) rfl d_Lv_valueOf_58 ?_
    refine lv_iload_n hx hb d_Lv_valueOf_61 rfl (lv_at hl 1 rfl) ?_
    refine ry_iald (D := (dC, dI)) (j := j) hx hb hK hP 2 0 rfl rfl (by omega) (by decide) d_Lv_valueOf_62 ?_
    rw [hf]
    refine ry_iald (D := (dC, dI)) (j := a) hx hb hK hP 6 0 rfl rfl (by omega) (by decide) d_Lv_valueOf_63 ?_
    rw [hx2]
    refine lv_iconst (v := 1) hx hb d_Lv_valueOf_64 (by decide) ?_
    refine lv_iadd hx hb d_Lv_valueOf_65 ?_
    exact W.iret (v := ((nI x) + 1)) hx hb hr (fun t ht hW => ⟨((nI x) + 1), rfl, (nI_1 x), ht⟩) (fun _ h => by cases h) d_Lv_valueOf_66
  · refine lv_tableIn (off := 61) (tgt := 67) hx hb d_Lv_valueOf_6 (by rw [hk]; decide) (by rw [hk]; decide) (by rw [hk]; decide) (by decide) ?_
    have hf := hf (by decide)
    have hs1 := hs1 (by decide)
    have ha := ha (by decide)
    have hb1 := hb1 (by decide)
    have hx2 := hx2 (by decide)
    have hy2 := hy2 (by decide)
    refine lv_aload_n hx hb d_Lv_valueOf_67 rfl (lv_at hl 0 rfl) ?_
    refine va_get (D := (dC, dI)) (ci := 1) (v := .ref (ad 7)) (C := R_Lv) (T := F_Lv) (N := 8) hx hb htb ul_Lv hown hK hP 0 rfl rfl 5 (by decide) (htb _ mw_34) (fun _ h9 => h9) rfl d_Lv_valueOf_68 ?_
    refine lv_aload_n hx hb d_Lv_valueOf_71 rfl (lv_at hl 0 rfl) ?_
    refine va_get (D := (dC, dI)) (ci := 1) (v := .ref (ad 3)) (C := R_Lv) (T := F_Lv) (N := 8) hx hb htb ul_Lv hown hK hP 0 rfl rfl 1 (by decide) (htb _ mw_30) (fun _ h9 => h9) rfl d_Lv_valueOf_72 ?_
    refine lv_iload_n hx hb d_Lv_valueOf_75 rfl (lv_at hl 1 rfl) ?_
    refine ry_iald (D := (dC, dI)) (j := j) hx hb hK hP 2 0 rfl rfl (by omega) (by decide) d_Lv_valueOf_76 ?_
    rw [hf]
    refine ry_iald (D := (dC, dI)) (j := a) hx hb hK hP 6 0 rfl rfl (by omega) (by decide) d_Lv_valueOf_77 ?_
    rw [hx2]
    refine lv_aload_n hx hb d_Lv_valueOf_78 rfl (lv_at hl 0 rfl) ?_
    refine va_get (D := (dC, dI)) (ci := 1) (v := .ref (ad 7)) (C := R_Lv) (T := F_Lv) (N := 8) hx hb htb ul_Lv hown hK hP 0 rfl rfl 5 (by decide) (htb _ mw_34) (fun _ h9 => h9) rfl d_Lv_valueOf_79 ?_
    refine lv_aload_n hx hb d_Lv_valueOf_82 rfl (lv_at hl 0 rfl) ?_
    refine va_get (D := (dC, dI)) (ci := 1) (v := .ref (ad 4)) (C := R_Lv) (T := F_Lv) (N := 8) hx hb htb ul_Lv hown hK hP 0 rfl rfl 2 (by decide) (htb _ mw_31) (fun _ h9 => h9) rfl d_Lv_valueOf_83 ?_
    refine lv_iload_n hx hb d_Lv_valueOf_86 rfl (lv_at hl 1 rfl) ?_
    refine ry_iald (D := (dC, dI)) (j := j) hx hb hK hP 3 0 rfl rfl (by omega) (by decide) d_Lv_valueOf_87 ?_
    rw [hs1]
    refine ry_iald (D := (dC, dI)) (j := b) hx hb hK hP 6 0 rfl rfl (by omega) (by decide) d_Lv_valueOf_88 ?_
    rw [hy2]
    refine va_mmax hx hb (by rw [hml]; exact hl.1.symm) hown (htb _ mw_144) (htb _ mw_145) (htb _ mw_11) (htb _ mc_max) (Nat.le_of_ble_eq_true rfl) (Nat.le_of_ble_eq_true rfl) (Nat.zero_le _) (Nat.zero_le _) d_Lv_valueOf_89 ?_
    rw [nI_max (by omega) (by omega)]
    exact W.iret (v := (nI (max x y))) hx hb hr (fun t ht hW => ⟨(nI (max x y)), rfl, rfl, ht⟩) (fun _ h => by cases h) d_Lv_valueOf_92
  · refine lv_tableIn (off := 87) (tgt := 93) hx hb d_Lv_valueOf_6 (by rw [hk]; decide) (by rw [hk]; decide) (by rw [hk]; decide) (by decide) ?_
    have hf := hf (by decide)
    have hs1 := hs1 (by decide)
    have ha := ha (by decide)
    have hb1 := hb1 (by decide)
    have hx2 := hx2 (by decide)
    have hy2 := hy2 (by decide)
    refine lv_aload_n hx hb d_Lv_valueOf_93 rfl (lv_at hl 0 rfl) ?_
    refine va_get (D := (dC, dI)) (ci := 1) (v := .ref (ad 7)) (C := R_Lv) (T := F_Lv) (N := 8) hx hb htb ul_Lv hown hK hP 0 rfl rfl 5 (by decide) (htb _ mw_34) (fun _ h9 => h9) rfl d_Lv_valueOf_94 ?_
    refine lv_aload_n hx hb d_Lv_valueOf_97 rfl (lv_at hl 0 rfl) ?_
    refine va_get (D := (dC, dI)) (ci := 1) (v := .ref (ad 4)) (C := R_Lv) (T := F_Lv) (N := 8) hx hb htb ul_Lv hown hK hP 0 rfl rfl 2 (by decide) (htb _ mw_31) (fun _ h9 => h9) rfl d_Lv_valueOf_98 ?_
    refine lv_iload_n hx hb d_Lv_valueOf_101 rfl (lv_at hl 1 rfl) ?_
    refine ry_iald (D := (dC, dI)) (j := j) hx hb hK hP 3 0 rfl rfl (by omega) (by decide) d_Lv_valueOf_102 ?_
    rw [hs1]
    refine ry_iald (D := (dC, dI)) (j := b) hx hb hK hP 6 0 rfl rfl (by omega) (by decide) d_Lv_valueOf_103 ?_
    rw [hy2]
    refine lv_istore (lv' := [(4, .int (nI y)), (0, .ref (ad 1)), (1, .int (nI j)), (2, .long v)]) hx hb d_Lv_valueOf_104 hl (by decide) rfl (fun ls hl => ?_)
    refine lv_iload hx hb d_Lv_valueOf_106 (lv_at hl 0 rfl) ?_
    refine lv_if_ne (tgt := 115) hx hb d_Lv_valueOf_108 (by decide) (fun c_108 => ?_) (fun c_108 => ?_)
    · refine lv_aload_n hx hb d_Lv_valueOf_115 rfl (lv_at hl 1 rfl) ?_
      refine va_get (D := (dC, dI)) (ci := 1) (v := .ref (ad 7)) (C := R_Lv) (T := F_Lv) (N := 8) hx hb htb ul_Lv hown hK hP 0 rfl rfl 5 (by decide) (htb _ mw_34) (fun _ h9 => h9) rfl d_Lv_valueOf_116 ?_
      refine lv_aload_n hx hb d_Lv_valueOf_119 rfl (lv_at hl 1 rfl) ?_
      refine va_get (D := (dC, dI)) (ci := 1) (v := .ref (ad 3)) (C := R_Lv) (T := F_Lv) (N := 8) hx hb htb ul_Lv hown hK hP 0 rfl rfl 1 (by decide) (htb _ mw_30) (fun _ h9 => h9) rfl d_Lv_valueOf_120 ?_
      refine lv_iload_n hx hb d_Lv_valueOf_123 rfl (lv_at hl 2 rfl) ?_
      refine ry_iald (D := (dC, dI)) (j := j) hx hb hK hP 2 0 rfl rfl (by omega) (by decide) d_Lv_valueOf_124 ?_
      rw [hf]
      refine ry_iald (D := (dC, dI)) (j := a) hx hb hK hP 6 0 rfl rfl (by omega) (by decide) d_Lv_valueOf_125 ?_
      rw [hx2]
      refine lv_iload hx hb d_Lv_valueOf_126 (lv_at hl 0 rfl) ?_
      refine va_mmax hx hb (by rw [hml]; exact hl.1.symm) hown (htb _ mw_144) (htb _ mw_145) (htb _ mw_11) (htb _ mc_max) (Nat.le_of_ble_eq_true rfl) (Nat.le_of_ble_eq_true rfl) (Nat.zero_le _) (Nat.zero_le _) d_Lv_valueOf_128 ?_
      rw [nI_max (by omega) (by omega)]
      exact W.iret (v := (nI (max x y))) hx hb hr (fun t ht hW => ⟨(nI (max x y)), rfl, (by rw [vA, if_neg (by decide), if_neg (by decide), if_neg (by decide), if_pos rfl, if_neg (fun z => c_108 (by rw [z]; rfl))]), ht⟩) (fun _ h => by cases h) d_Lv_valueOf_131
    · refine lv_iconst (v := 0) hx hb d_Lv_valueOf_111 (by decide) ?_
      refine lv_goto (tgt := 131) hx hb d_Lv_valueOf_112 (by decide) ?_
      exact W.iret (v := 0) hx hb hr (fun t ht hW => ⟨0, rfl, (by rw [vA, if_neg (by decide), if_neg (by decide), if_neg (by decide), if_pos rfl, if_pos ((nI_eq (b := 0) (by omega) (by decide)).mp c_108)]; rfl), ht⟩) (fun _ h => by cases h) d_Lv_valueOf_131
end
section
/-! Methods that write their world, and calls of them. -/
section WY
variable {p : Program} {l : Launch} {e : Env} {R : Room} {s : State} {m : MethodId} {args : Array Value} {below : List Frame} {meth : Method} {c : Code} {H : Heap} {locs : List Loc} {cells slots : Nat} {Q : State → Prop}
variable {cc : ByteArray} {pc : Nat} {ls : Array Slot} {rest : List Value} {D : va_G} {cl : List vw_C} {A : Nat → Prop} {tys : List (ClassId × FieldType)} {ws wc wr : va_W} {H0 : Heap}
abbrev wy_P (D : va_G) (cl : List vw_C) (wc : va_W) (tys : List (ClassId × FieldType)) (sz : Nat) (U : State) : Prop := U.heap.size = sz ∧ va_P D cl wc U.heap ∧ va_K D cl tys U ∧ va_D (fun _ => True) wc
abbrev wy_B {σ : Type} (D : va_G) (cl : List vw_C) (tys : List (ClassId × FieldType)) (A : Nat → Prop) (wd : σ → va_W) (u : σ) (t : State) : Prop := va_P D cl (wd u) t.heap ∧ va_K D cl tys t ∧ va_D A (wd u)
def wy_Q {ρ σ : Type} (rv : ρ → Option Value) (post : ρ → σ → Prop) (B : σ → State → Prop) (A : Nat → Prop) : Array Value → State → Outcome → State → Prop := fun _ st oc t => (∃ (r : ρ) (u : σ), oc = .returned (rv r) ∧ post r u ∧ B u t) ∧ va_F A st t
theorem wy_blind {As : List Value} {sz : Nat} : FrameBlind (va_Pc As (wy_P D cl wc tys sz)) := fun a U g mk q => ⟨q.1, q.2.1, q.2.2.1, va_K.moved (u := U) (U := U.calling g mk a) (Vm.Alike.refl U.vm) q.2.2.2.1, q.2.2.2.2⟩
variable {ρ σ : Type} {rv : ρ → Option Value} {post : ρ → σ → Prop} {pt : String → σ → Prop} {wd : σ → va_W} {y : MethodName} {bytes : ByteArray} {maxL nL n index mc ms : Nat} {ret : Option FieldType} {rm : Room} {own C : String} {As st0 : List Value} {b : Nat}
theorem wy_call {a : Array Value} (hr : va_Run p l e R s m args below meth c H locs cells slots mc ms (F0 m pc ls st0) rest (wy_Q rv post (wy_B D cl tys (va_A wc H.size) wd) (va_A wc H.size) a) (va_A wc H.size)) (hP : va_P D cl ws H) (hD : va_D A ws) (hS : va_S A H0 H locs) (hA : ∀ q, H0.size ≤ q → A q)
    (isC isR : List Nat) (hC : isC.map (fun i => ws[i]?) = wc.map some) (hR : isR.map (fun i => ws[i]?) = wr.map some) (hn : va_nd isR = true) (hdis : ∀ i ∈ isR, i ∉ isC)
    (kk : ∀ (r : ρ) (u : σ) (H1 : Heap) (locs1 : List Loc), post r u → va_P D cl (wr ++ wd u) H1 → va_D A (wr ++ wd u) → va_S A H0 H1 locs1 → W p l e R s m args below meth c H1 locs1 (cells + mc) (slots + ms) Q (F0 m (pc + 3) ls ((rv r).toList ++ rest))) : W p l e R s m args below meth c H locs cells slots Q (F0 m pc ls st0) := by
  have hF := va_free (wc := wc) hD hS hA isC hC
  intro T hT X
  obtain ⟨v, st₀, t, T', L, h0, X', hL, e1, e2, ⟨⟨r, u, hv, hp, hP1, hK1, hD1⟩, hz, hk⟩, st⟩ := hr T hT X
  cases hv
  rw [h0] at hz hk
  have hk' : ∀ q : Nat, q < H.size → ¬ va_A wc H.size q → T'.heap[q]? = H[q]? := fun q h1 h2 => by rw [e1]; exact hk q h1 h2
  obtain ⟨hPj, hDj⟩ := va_join (wr := wr) (w1 := wd u) hP hD isC isR hC hR hn hdis hk' hF (by rw [e1]; exact hP1) hD1
  obtain ⟨t2, a1, b1⟩ := kk r u T'.heap (locs ++ L) hp hPj hDj
    ⟨Nat.le_trans hS.1 (by rw [e1]; exact hz), fun q h1 h2 => by rw [hk' q (Nat.lt_of_lt_of_le h1 hS.1) (fun z => h2 (hF q z))]; exact hS.2.1 q h1 h2, fun q hq => by
      rcases List.mem_append.mp hq with h | h
      · exact hS.2.2 q h
      · exact hF _ (hL q h)⟩ T' rfl X'
  exact ⟨t2, st t2 a1, b1⟩
theorem wy_callV (S : CallFix p m c cc nL s args tb own) (hM : Met l y (Cond.code y bytes maxL ret :: tb) rm (va_Pc (.ref b :: As) (wy_P D cl wc tys H.size)) (wy_Q rv post (wy_B D cl tys (va_A wc H.size) wd) (va_A wc H.size)) mc ms (va_A wc H.size)) (hG : GoodIn tb (wsV own index C y (Cond.code y bytes maxL ret :: tb))) (hrc : rm.cells = mc) (hrs : rm.slots = ms)
    (hd : y.cls = C ∧ y.cls ≠ "java/lang/invoke/MethodHandle" ∧ y.cls ≠ "java/lang/invoke/VarHandle" ∧ (parseMethodDescriptor y.desc).map (fun d => d.parameters.length) = some n) (hRm : rm.frames + 1 ≤ R.frames ∧ 8 + (maxL + 11) + rm.locals ≤ R.locals)
    (hP : va_P D cl ws H) (hD : va_D A ws) (hS : va_S A H0 H locs) (hA : ∀ q, H0.size ≤ q → A q) (hK : va_K D cl tys s)
    (isC isR : List Nat) (hC : isC.map (fun i => ws[i]?) = wc.map some) (hR : isR.map (fun i => ws[i]?) = wr.map some) (hnd : va_nd isR = true) (hdis : ∀ i ∈ isR, i ∉ isC) (hPc : va_P D cl wc H) (hDc : va_D (fun _ => True) wc)
    {q : vw_C} {q0 ci : Nat} {fs : List Value} (hc : cl[ci]? = some q) (he : wc[q0]? = some (b, .inr (ci, fs))) (hCq : q.1 = C)
    (hn : As.length = n) (hsize : ls.size = nL) (hstack : st0 = As.reverse ++ .ref b :: rest) (hW : (rest.map fun v => v.category).sum ≤ 8) (hdg : decode cc pc = .ok (.invokevirtual index, 3)) (hf : cells + mc ≤ R.cells ∧ slots + ms ≤ R.slots)
    (kk : ∀ (r : ρ) (u : σ) (H1 : Heap) (locs1 : List Loc), post r u → va_P D cl (wr ++ wd u) H1 → va_D A (wr ++ wd u) → va_S A H0 H1 locs1 → W p l e R s m args below meth c H1 locs1 (cells + mc) (slots + ms) Q (F0 m (pc + 3) ls ((rv r).toList ++ rest))) : W p l e R s m args below meth c H locs cells slots Q (F0 m pc ls st0) :=
  wy_call (va_runV S hM (cwV n S.2.2.2.2 hG rfl hrc hrs hd hRm) ⟨wy_blind, by rw [← hCq]; exact va_recv hK hPc hc he, fun U hU hW => ⟨rfl, by rw [hU], by rw [hU]; exact hPc, va_K.moved hW.alike hK, hDc⟩⟩ rfl hn hsize hstack (lv_room hW) hdg hf) hP hD hS hA isC isR hC hR hnd hdis kk
/-- a call with either end, behind the frame rule -/
theorem wz_call {a : Array Value} (hr : wx_Run p l e R s m args below meth c H locs cells slots (F0 m pc ls st0) rest (wx_Q rv post pt (wy_B D cl tys (va_A wc H.size) wd) (va_A wc H.size) a) (va_A wc H.size)) (hP : va_P D cl ws H) (hD : va_D A ws) (hS : va_S A H0 H locs) (hA : ∀ q, H0.size ≤ q → A q)
    (isC isR : List Nat) (hC : isC.map (fun i => ws[i]?) = wc.map some) (hR : isR.map (fun i => ws[i]?) = wr.map some) (hn : va_nd isR = true) (hdis : ∀ i ∈ isR, i ∉ isC)
    (kk : ∀ (r : ρ) (u : σ) (H1 : Heap) (locs1 : List Loc), post r u → va_P D cl (wr ++ wd u) H1 → va_D A (wr ++ wd u) → va_S A H0 H1 locs1 → W p l e R s m args below meth c H1 locs1 cells slots Q (F0 m (pc + 3) ls ((rv r).toList ++ rest)))
    (kt : ∀ (x : Nat) (X : String) (u : σ) (H1 : Heap) (locs1 : List Loc), pt X u → (∃ cell : Cell, H1[x]? = some cell ∧ cell.vm.isStatics = false ∧ s.vm.findClass X = some cell.cls) → va_P D cl (wr ++ wd u) H1 → va_D A (wr ++ wd u) → va_S A H0 H1 locs1 → wx_Th p l e R s m args below meth c H1 locs1 (cells + 1) (slots + 6) Q (F0 m pc ls rest) x) : W p l e R s m args below meth c H locs cells slots Q (F0 m pc ls st0) := by
  have hF := va_free (wc := wc) hD hS hA isC hC
  refine wx_call hr hS (fun q _ h => hF q h) hF (fun r u t H1 locs1 ht hvm hp hB hz hk hS1 => ?_) (fun x X u t H1 locs1 ht hvm hp hB hex hz hk hS1 => ?_)
  · obtain ⟨hP1, hK1, hD1⟩ := hB
    obtain ⟨hPj, hDj⟩ := va_join (wr := wr) (w1 := wd u) hP hD isC isR hC hR hn hdis hk hF (by rw [← ht]; exact hP1) hD1
    exact kk r u H1 locs1 hp hPj hDj hS1
  · obtain ⟨hP1, hK1, hD1⟩ := hB
    obtain ⟨hPj, hDj⟩ := va_join (wr := wr) (w1 := wd u) hP hD isC isR hC hR hn hdis hk hF (by rw [← ht]; exact hP1) hD1
    obtain ⟨cell, g1, g2, g3⟩ := hex
    exact kt x X u H1 locs1 hp ⟨cell, by rw [← ht]; exact g1, g2, by rw [← hvm.findClass]; exact g3⟩ hPj hDj hS1
end WY
end
section
/-! The table of levels: nd j = (kind, first or parameter, second); what follows from it, by folds. -/
def fo {α : Type} (Al : Nat → Nat → α → α → α) (d : α) (nd : Nat → Nat × Nat × Nat) (j : Nat) : α :=
  Al (nd j).1 (nd j).2.1 (if (nd j).2.1 < j then fo Al d nd (nd j).2.1 else d) (if (nd j).2.2 < j then fo Al d nd (nd j).2.2 else d)
termination_by j
theorem fo_eq {α : Type} (Al : Nat → Nat → α → α → α) (d : α) (nd : Nat → Nat × Nat × Nat) (j : Nat) : fo Al d nd j = Al (nd j).1 (nd j).2.1 (if (nd j).2.1 < j then fo Al d nd (nd j).2.1 else d) (if (nd j).2.2 < j then fo Al d nd (nd j).2.2 else d) := by rw [fo]
theorem fo_congr {α : Type} {Al : Nat → Nat → α → α → α} {d : α} {nd nd' : Nat → Nat × Nat × Nat} : ∀ (m j : Nat), j < m → (∀ i, i ≤ j → nd i = nd' i) → fo Al d nd j = fo Al d nd' j := by
  intro m
  induction m with
  | zero => intro j h; omega
  | succ m ih =>
    intro j hj h
    rw [fo_eq, fo_eq Al d nd' j, ← h j (Nat.le_refl j)]
    congr 1
    · by_cases h1 : (nd j).2.1 < j
      · rw [if_pos h1, if_pos h1, ih _ (by omega) (fun i hi => h i (by omega))]
      · rw [if_neg h1, if_neg h1]
    · by_cases h1 : (nd j).2.2 < j
      · rw [if_pos h1, if_pos h1, ih _ (by omega) (fun i hi => h i (by omega))]
      · rw [if_neg h1, if_neg h1]
/-- NEXTs in one another -/
def dp (nd : Nat → Nat × Nat × Nat) (j : Nat) : Nat := fo (fun k _ x y => dA k x y) 0 nd j
/-- the parameters that stand in a level -/
def us (nd : Nat → Nat × Nat × Nat) (j : Nat) : Nat := fo uA 0 nd j
/-- its parts in a region -/
def pb (g : Nat) (nd : Nat → Nat × Nat × Nat) (j : Nat) : Nat → Nat := fo (pA g) (sg 5) nd j
/-- its value -/
def vl (ro : Nat → Nat) (nd : Nat → Nat × Nat × Nat) (j : Nat) : Nat := fo (fun k a x y => vA k (ro a) x y) 0 nd j
/-- one row of the table -/
def rowOk (q : Nat × Nat × Nat) (j : Nat) : Prop := q.1 ≤ 4 ∧ (q.1 = 1 → q.2.1 < 5) ∧ (2 ≤ q.1 → q.2.1 < j) ∧ (3 ≤ q.1 → q.2.2 < j) ∧ (q.1 = 0 → q.2.1 = 0) ∧ (q.1 < 3 → q.2.2 = 0)
def Wn (nd : Nat → Nat × Nat × Nat) (n : Nat) : Prop := n ≤ 120 ∧ (∀ j, j < n → rowOk (nd j) j) ∧ (∀ j, j < n → dp nd j ≤ 60) ∧ ∀ i j, i < n → j < n → nd i = nd j → i = j
def fF (q : Nat × Nat × Nat) : Int32 := if q.1 = 0 then -1 else nI q.2.1
def fS (q : Nat × Nat × Nat) : Int32 := if q.1 < 3 then -1 else nI q.2.2
/-- the rows as the arrays hold them -/
def Rw (nd : Nat → Nat × Nat × Nat) (n : Nat) (K F S : Nat → Int32) : Prop := ∀ j, j < n → K j = nI (nd j).1 ∧ F j = fF (nd j) ∧ S j = fS (nd j)
theorem fF_n {q : Nat × Nat × Nat} (h : 1 ≤ q.1) : fF q = nI q.2.1 := by rw [fF, if_neg (by omega)]
theorem fS_n {q : Nat × Nat × Nat} (h : 3 ≤ q.1) : fS q = nI q.2.2 := by rw [fS, if_neg (by omega)]
theorem dp_eq {nd : Nat → Nat × Nat × Nat} {j : Nat} (h : rowOk (nd j) j) : dp nd j = dA (nd j).1 (if 2 ≤ (nd j).1 then dp nd (nd j).2.1 else 0) (if 3 ≤ (nd j).1 then dp nd (nd j).2.2 else 0) := by
  unfold dp
  rw [fo_eq]
  obtain ⟨h1, h2, h3, h4, h5, h6⟩ := h
  rcases Nat.lt_or_ge (nd j).1 2 with k | k
  · unfold dA; rw [if_pos k, if_pos k]
  rw [if_pos k, if_pos (h3 k)]
  rcases Nat.lt_or_ge (nd j).1 3 with k' | k'
  · unfold dA; rw [if_neg (by omega), if_pos (by omega), if_neg (by omega), if_pos (by omega)]
  · rw [if_pos k', if_pos (h4 k')]
theorem us_eq {nd : Nat → Nat × Nat × Nat} {j : Nat} (h : rowOk (nd j) j) : us nd j = uA (nd j).1 (nd j).2.1 (if 2 ≤ (nd j).1 then us nd (nd j).2.1 else 0) (if 3 ≤ (nd j).1 then us nd (nd j).2.2 else 0) := by
  unfold us
  rw [fo_eq]
  obtain ⟨h1, h2, h3, h4, h5, h6⟩ := h
  rcases (show (nd j).1 = 0 ∨ (nd j).1 = 1 ∨ (nd j).1 = 2 ∨ 3 ≤ (nd j).1 by omega) with k | k | k | k
  · unfold uA; simp [k]
  · unfold uA; simp [k]
  · unfold uA; simp [k, h3]
  · rw [if_pos (h3 (by omega)), if_pos (h4 k), if_pos (by omega), if_pos k]
theorem pb_eq (g : Nat) {nd : Nat → Nat × Nat × Nat} {j : Nat} (h : rowOk (nd j) j) : pb g nd j = pA g (nd j).1 (nd j).2.1 (if 2 ≤ (nd j).1 then pb g nd (nd j).2.1 else sg 5) (if 3 ≤ (nd j).1 then pb g nd (nd j).2.2 else sg 5) := by
  unfold pb
  rw [fo_eq]
  obtain ⟨h1, h2, h3, h4, h5, h6⟩ := h
  rcases (show (nd j).1 = 0 ∨ (nd j).1 = 1 ∨ (nd j).1 = 2 ∨ 3 ≤ (nd j).1 by omega) with k | k | k | k
  · unfold pA; simp [k]
  · unfold pA; simp [k]
  · unfold pA; simp [k, h3]
  · rw [if_pos (h3 (by omega)), if_pos (h4 k), if_pos (by omega), if_pos k]
theorem vl_eq (ro : Nat → Nat) {nd : Nat → Nat × Nat × Nat} {j : Nat} (h : rowOk (nd j) j) : vl ro nd j = vA (nd j).1 (ro (nd j).2.1) (if 2 ≤ (nd j).1 then vl ro nd (nd j).2.1 else 0) (if 3 ≤ (nd j).1 then vl ro nd (nd j).2.2 else 0) := by
  unfold vl
  rw [fo_eq]
  obtain ⟨h1, h2, h3, h4, h5, h6⟩ := h
  rcases (show (nd j).1 = 0 ∨ (nd j).1 = 1 ∨ (nd j).1 = 2 ∨ 3 ≤ (nd j).1 by omega) with k | k | k | k
  · unfold vA; simp [k]
  · unfold vA; simp [k]
  · unfold vA; simp [k, h3]
  · rw [if_pos (h3 (by omega)), if_pos (h4 k), if_pos (by omega), if_pos k]
/-- a level's value is no more than the greatest parameter and its NEXTs -/
theorem vl_le {ro : Nat → Nat} {B : Nat} (hB : ∀ a, a < 5 → ro a ≤ B) {nd : Nat → Nat × Nat × Nat} {n : Nat} (hW : ∀ j, j < n → rowOk (nd j) j) : ∀ (m j : Nat), j < m → j < n → vl ro nd j ≤ B + dp nd j := by
  intro m
  induction m with
  | zero => intro j h; omega
  | succ m ih =>
    intro j hj hn
    have hr := hW j hn
    rw [vl_eq ro hr, dp_eq hr]
    obtain ⟨h1, h2, h3, h4, h5, h6⟩ := hr
    rcases (show (nd j).1 = 0 ∨ (nd j).1 = 1 ∨ (nd j).1 = 2 ∨ (nd j).1 = 3 ∨ (nd j).1 = 4 by omega) with k | k | k | k | k
    · simp [vA, dA, k]
    · have := hB _ (h2 k); simp [vA, dA, k]; omega
    · have := ih (nd j).2.1 (by have := h3 (by omega); omega) (by have := h3 (by omega); omega); simp [vA, dA, k]; omega
    · have a1 := ih (nd j).2.1 (by have := h3 (by omega); omega) (by have := h3 (by omega); omega)
      have a2 := ih (nd j).2.2 (by have := h4 (by omega); omega) (by have := h4 (by omega); omega)
      simp [vA, dA, k]; omega
    · have a1 := ih (nd j).2.1 (by have := h3 (by omega); omega) (by have := h3 (by omega); omega)
      have a2 := ih (nd j).2.2 (by have := h4 (by omega); omega) (by have := h4 (by omega); omega)
      simp [vA, dA, k]
      split <;> omega
theorem up_lt {V : Nat → Int32} {f : Nat → Int32} {i : Nat} (h : ∀ z, z < i → V z = f z) : ∀ z, z < i + 1 → upd V i (f i) z = f z := fun z hz => by
  rcases Nat.lt_or_ge z i with h1 | h1
  · rw [pk_un (by omega)]; exact h z h1
  · rw [show z = i by omega, pk_us]
theorem vl_b {nd : Nat → Nat × Nat × Nat} {n : Nat} (hW : Wn nd n) (v : Int64) {j : Nat} (h : j < n) : vl (pvN v) nd j < 5000 := by
  have h1 := vl_le (ro := pvN v) (B := 4095) (fun a _ => by have := pvN_lt v a; omega) hW.2.1 (j + 1) j (by omega) h
  have h2 := hW.2.2.1 j h
  omega
theorem vl_small {nd : Nat → Nat × Nat × Nat} {n j k a : Nat} {v : Int64} (hW : Wn nd n) (hj : j < n) (h : 2 ≤ k → a < j) : (if 2 ≤ k then vl (pvN v) nd a else 0) < 900000 := by
  split
  · rename_i h2
    have := vl_b hW v (Nat.lt_trans (h h2) hj)
    omega
  · omega
theorem vl_small2 {nd : Nat → Nat × Nat × Nat} {n j k a : Nat} {v : Int64} (hW : Wn nd n) (hj : j < n) (h : 3 ≤ k → a < j) : (if 3 ≤ k then vl (pvN v) nd a else 0) < 900000 := by
  split
  · rename_i h2
    have := vl_b hW v (Nat.lt_trans (h h2) hj)
    omega
  · omega
end
section
set_option maxHeartbeats 4000000 in
set_option maxRecDepth 100000 in
theorem lp_Lv_valueFor {p : Program} (l : Launch) {e : Env} {s : State} {m : MethodId} {args : Array Value} {below : List Frame} {meth : Method} {c : Code} {Q : State → Prop} {A : Nat → Prop} {H0 : Heap} (C0 : cx p s m args meth c b_Lv_valueFor 5 (some .int) R_Lv) (dC : Nat → ClassId) (dI : Nat → Nat → Nat) (cI cL cZ : ClassId) (ad : Nat → Nat) (K F S D U : Nat → Int32) (PT : Nat → Int64) (n : Nat) (hn : n ≤ 120) (nd : Nat → Nat × Nat × Nat) (hWn : Wn nd n) (hRw : Rw nd n K F S) (v : Int64) (x : Nat) (hx1 : x < n) (hK : va_K (dC, dI) classes (tyI cI cL cZ) s) (hA : ∀ q : Nat, H0.size ≤ q → A q) 
    (KB : ∀ (V : Nat → Int32) (H : Heap) (locs : List Loc) (ls : Array Slot), (∀ z, z < x + 1 → V z = nI (vl (pvN v) nd z)) → va_P (dC, dI) classes [((ad 1), .inr (1, [.ref (ad 2), .ref (ad 3), .ref (ad 4), .ref (ad 5), .ref (ad 6), .ref (ad 7), .ref (ad 8), .int (nI n)])), ((ad 2), .inl (cI, 120, .inl K)), ((ad 3), .inl (cI, 120, .inl F)), ((ad 4), .inl (cI, 120, .inl S)), ((ad 5), .inl (cI, 120, .inl D)), ((ad 6), .inl (cI, 120, .inl U)), ((ad 7), .inl (cI, 120, .inl V)), ((ad 8), .inl (cL, 3840, .inr (.inl PT)))] H → va_D A [((ad 1), .inr (1, [.ref (ad 2), .ref (ad 3), .ref (ad 4), .ref (ad 5), .ref (ad 6), .ref (ad 7), .ref (ad 8), .int (nI n)])), ((ad 2), .inl (cI, 120, .inl K)), ((ad 3), .inl (cI, 120, .inl F)), ((ad 4), .inl (cI, 120, .inl S)), ((ad 5), .inl (cI, 120, .inl D)), ((ad 6), .inl (cI, 120, .inl U)), ((ad 7), .inl (cI, 120, .inl V)), ((ad 8), .inl (cL, 3840, .inr (.inl PT)))] → va_S A H0 H locs → lv_has ls 5 [(0, .ref (ad 1)), (1, .int (nI x)), (2, .long v)] → W p l e (rmH 4 0 0) s m args below meth c H locs 0 0 Q (F0 m 29 ls []))
    : ∀ (q : Nat) (i : Nat) (V : Nat → Int32), i + q = x + 1 ∧ (∀ z, z < i → V z = nI (vl (pvN v) nd z)) → ∀ (H : Heap) (locs : List Loc) (ls : Array Slot), va_P (dC, dI) classes [((ad 1), .inr (1, [.ref (ad 2), .ref (ad 3), .ref (ad 4), .ref (ad 5), .ref (ad 6), .ref (ad 7), .ref (ad 8), .int (nI n)])), ((ad 2), .inl (cI, 120, .inl K)), ((ad 3), .inl (cI, 120, .inl F)), ((ad 4), .inl (cI, 120, .inl S)), ((ad 5), .inl (cI, 120, .inl D)), ((ad 6), .inl (cI, 120, .inl U)), ((ad 7), .inl (cI, 120, .inl V)), ((ad 8), .inl (cL, 3840, .inr (.inl PT)))] H → va_D A [((ad 1), .inr (1, [.ref (ad 2), .ref (ad 3), .ref (ad 4), .ref (ad 5), .ref (ad 6), .ref (ad 7), .ref (ad 8), .int (nI n)])), ((ad 2), .inl (cI, 120, .inl K)), ((ad 3), .inl (cI, 120, .inl F)), ((ad 4), .inl (cI, 120, .inl S)), ((ad 5), .inl (cI, 120, .inl D)), ((ad 6), .inl (cI, 120, .inl U)), ((ad 7), .inl (cI, 120, .inl V)), ((ad 8), .inl (cL, 3840, .inr (.inl PT)))] → va_S A H0 H locs → lv_has ls 5 [(0, .ref (ad 1)), (1, .int (nI x)), (2, .long v), (4, .int (nI i))] → W p l e (rmH 4 0 0) s m args below meth c H locs 0 0 Q (F0 m 3 ls []) := by
  obtain ⟨hx, hb, hr, hml, hown, htb, hlocks⟩ := id C0
  intro q
  induction q with
  | zero =>
    intro i V hiV H locs ls hP hD hS hl
    obtain ⟨hi, hV⟩ := hiV
    refine lv_iload hx hb d_Lv_valueFor_3 (lv_at hl 3 rfl) ?_
    refine lv_iload_n hx hb d_Lv_valueFor_5 rfl (lv_at hl 1 rfl) ?_
    refine lv_icmp_gt (tgt := 29) hx hb d_Lv_valueFor_6 (by decide) (fun c_6 => ?_) (fun c_6 => ?_)
    · exact KB V H locs ls (fun z hz => hV z (by omega)) hP hD hS (lv_sub hl [0, 1, 2] rfl)
    · exact absurd ((nI_ltI (by omega) (by omega)).mpr (by omega)) c_6
  | succ q ih =>
    intro i V hiV H locs ls hP hD hS hl
    obtain ⟨hi, hV⟩ := hiV
    refine lv_iload hx hb d_Lv_valueFor_3 (lv_at hl 3 rfl) ?_
    refine lv_iload_n hx hb d_Lv_valueFor_5 rfl (lv_at hl 1 rfl) ?_
    refine lv_icmp_gt (tgt := 29) hx hb d_Lv_valueFor_6 (by decide) (fun c_6 => ?_) (fun c_6 => ?_)
    · exact absurd ((nI_ltI (by omega) (by omega)).mp c_6) (by omega)
    · refine lv_aload_n hx hb d_Lv_valueFor_9 rfl (lv_at hl 0 rfl) ?_
      refine va_get (D := (dC, dI)) (ci := 1) (v := .ref (ad 7)) (C := R_Lv) (T := F_Lv) (N := 8) hx hb htb ul_Lv hown hK hP 0 rfl rfl 5 (by decide) (htb _ mw_34) (fun _ h9 => h9) rfl d_Lv_valueFor_10 ?_
      refine lv_iload hx hb d_Lv_valueFor_13 (lv_at hl 3 rfl) ?_
      refine lv_aload_n hx hb d_Lv_valueFor_15 rfl (lv_at hl 0 rfl) ?_
      refine lv_iload hx hb d_Lv_valueFor_16 (lv_at hl 3 rfl) ?_
      refine lv_lload_n hx hb d_Lv_valueFor_18 rfl (lv_at hl 2 rfl) ?_
      have hri := hWn.2.1 i (by omega)
      have hqi := hRw i (by omega)
      refine ry_callV (n := 2) (As := [.int (nI i), .long v]) (rest := [.int (nI i), .ref (ad 7)]) ⟨hx, hb, hml, hown, htb⟩ (c_Lv_valueOf l dC dI cI cL cZ ad K F S D U V PT n hn i (by omega) (nd i).1 (nd i).2.1 (nd i).2.2 hri.1 hqi.1 (fun h => by rw [hqi.2.1, fF_n h]) (fun h => by rw [hqi.2.2, fS_n h]) hri.2.1 (fun h => by have := hri.2.2.1 h; omega) (fun h => by have := hri.2.2.2.1 h; omega) v (if 2 ≤ (nd i).1 then vl (pvN v) nd (nd i).2.1 else 0) (if 3 ≤ (nd i).1 then vl (pvN v) nd (nd i).2.2 else 0) (fun h => by rw [if_pos h]; exact hV _ (hri.2.2.1 h)) (fun h => by rw [if_pos h]; exact hV _ (hri.2.2.2.1 h)) (vl_small hWn (by omega) hri.2.2.1) (vl_small2 hWn (by omega) hri.2.2.2.1)) (gV mw_140 mw_142 mp_0 mw_2 mc_Lv_valueOf) rfl rfl (by decide +kernel) ⟨Nat.le_of_ble_eq_true rfl, Nat.le_of_ble_eq_true rfl⟩ hP hK (ci := 1) (q0 := 0) rfl rfl rfl rfl hl.1 rfl (Nat.le_of_ble_eq_true rfl) d_Lv_valueFor_19 ⟨Nat.zero_le _, Nat.zero_le _⟩ (fun r_1 hr_1 => ?_)
      refine W.eq (g2 := F0 m 22 ls [.int r_1, .int (nI i), .ref (ad 7)]) rfl ?_
      rw [← vl_eq (pvN v) hri] at hr_1
      subst hr_1
      refine ry_iast (D := (dC, dI)) (j := i) hx hb hK hP hD hS 6 0 rfl rfl (by omega) (by decide) d_Lv_valueFor_22 (fun H locs hP hD hS => ?_)
      have hP : va_P (dC, dI) classes [((ad 1), .inr (1, [.ref (ad 2), .ref (ad 3), .ref (ad 4), .ref (ad 5), .ref (ad 6), .ref (ad 7), .ref (ad 8), .int (nI n)])), ((ad 2), .inl (cI, 120, .inl K)), ((ad 3), .inl (cI, 120, .inl F)), ((ad 4), .inl (cI, 120, .inl S)), ((ad 5), .inl (cI, 120, .inl D)), ((ad 6), .inl (cI, 120, .inl U)), ((ad 7), .inl (cI, 120, .inl (upd V i ((nI (vl (pvN v) nd i)))))), ((ad 8), .inl (cL, 3840, .inr (.inl PT)))] H := hP
      have hD : va_D A [((ad 1), .inr (1, [.ref (ad 2), .ref (ad 3), .ref (ad 4), .ref (ad 5), .ref (ad 6), .ref (ad 7), .ref (ad 8), .int (nI n)])), ((ad 2), .inl (cI, 120, .inl K)), ((ad 3), .inl (cI, 120, .inl F)), ((ad 4), .inl (cI, 120, .inl S)), ((ad 5), .inl (cI, 120, .inl D)), ((ad 6), .inl (cI, 120, .inl U)), ((ad 7), .inl (cI, 120, .inl (upd V i ((nI (vl (pvN v) nd i)))))), ((ad 8), .inl (cL, 3840, .inr (.inl PT)))] := hD
      refine lv_iinc (v := (nI (i + 1))) (lv' := [(4, .int (nI (i + 1))), (0, .ref (ad 1)), (1, .int (nI x)), (2, .long v)]) hx hb d_Lv_valueFor_23 hl (k := 3) rfl (nI_1 _) (by decide) rfl (fun ls hl => ?_)
      refine lv_goto (tgt := 3) hx hb d_Lv_valueFor_26 (by decide) ?_
      exact ih (i + 1) (upd V i (nI (vl (pvN v) nd i))) ⟨by omega, up_lt (f := fun z => nI (vl (pvN v) nd z)) hV⟩ H locs ls hP hD hS (lv_sub hl [1, 2, 3, 0] rfl)

set_option maxHeartbeats 4000000 in
set_option maxRecDepth 100000 in
theorem c_Lv_valueFor (l : Launch) (dC : Nat → ClassId) (dI : Nat → Nat → Nat) (cI cL cZ : ClassId) (ad : Nat → Nat) (K F S D U V : Nat → Int32) (PT : Nat → Int64) (n : Nat) (hn : n ≤ 120) (nd : Nat → Nat × Nat × Nat) (hWn : Wn nd n) (hRw : Rw nd n K F S) (v : Int64) (x : Nat) (hx1 : x < n) (sz : Nat) : Met l y_Lv_valueFor (cw_Lv_valueFor :: tb) (rmH 4 0 0) (va_Pc [.ref (ad 1), .int (nI x), .long v] (wy_P (dC, dI) classes (wLv cI cL ad K F S D U V PT n) (tyI cI cL cZ) sz)) (wy_Q ry_i (fun r (u : Nat → Int32) => r = nI (vl (pvN v) nd x)) (wy_B (dC, dI) classes (tyI cI cL cZ) (va_A (wLv cI cL ad K F S D U V PT n) sz) (fun u : Nat → Int32 => wLv cI cL ad K F S D U u PT n)) (va_A (wLv cI cL ad K F S D U V PT n) sz)) 0 0 (va_A (wLv cI cL ad K F S D U V PT n) sz) := by
  refine Met.ofW (cc := b_Lv_valueFor) (maxL := 5) (ret := (some .int)) (by decide +kernel) rfl ?_
  intro p e s m args below meth c s₁ B hml0 hv
  have C0 := cx_of B hml0 rfl
  obtain ⟨hx, hb, hr, hml, hown, htb, hlocks⟩ := id C0
  obtain ⟨rfl, hsz, hP, hK, hD0⟩ := hv
  subst hsz
  have hD := hD0.self (sz := s.heap.size)
  generalize hAe : va_A (wLv cI cL ad K F S D U V PT n) s.heap.size = A at hD ⊢
  have hA : ∀ q : Nat, s.heap.size ≤ q → A q := fun q h => by rw [← hAe]; exact Or.inr h
  have hS : va_S A s.heap s.heap [] := va_S.rf
  have hl := lv_entry ([.ref (ad 1), .int (nI x), .long v]) (n := 5) (Nat.le_of_ble_eq_true rfl)
  rw [lg_entry_eq]
  generalize (lg_sl ([.ref (ad 1), .int (nI x), .long v]) ++ List.replicate (5 - (lg_sl ([.ref (ad 1), .int (nI x), .long v])).length) Slot.unset).toArray = ls at hl ⊢
  have hl : lv_has ls 5 [(0, .ref (ad 1)), (1, .int (nI x)), (2, .long v)] := hl
  have hP : va_P (dC, dI) classes [((ad 1), .inr (1, [.ref (ad 2), .ref (ad 3), .ref (ad 4), .ref (ad 5), .ref (ad 6), .ref (ad 7), .ref (ad 8), .int (nI n)])), ((ad 2), .inl (cI, 120, .inl K)), ((ad 3), .inl (cI, 120, .inl F)), ((ad 4), .inl (cI, 120, .inl S)), ((ad 5), .inl (cI, 120, .inl D)), ((ad 6), .inl (cI, 120, .inl U)), ((ad 7), .inl (cI, 120, .inl V)), ((ad 8), .inl (cL, 3840, .inr (.inl PT)))] s.heap := hP
  have hD : va_D A [((ad 1), .inr (1, [.ref (ad 2), .ref (ad 3), .ref (ad 4), .ref (ad 5), .ref (ad 6), .ref (ad 7), .ref (ad 8), .int (nI n)])), ((ad 2), .inl (cI, 120, .inl K)), ((ad 3), .inl (cI, 120, .inl F)), ((ad 4), .inl (cI, 120, .inl S)), ((ad 5), .inl (cI, 120, .inl D)), ((ad 6), .inl (cI, 120, .inl U)), ((ad 7), .inl (cI, 120, .inl V)), ((ad 8), .inl (cL, 3840, .inr (.inl PT)))] := hD
  have hA0 := hA
  refine lv_iconst (v := 0) hx hb d_Lv_valueFor_0 (by decide) ?_
  refine lv_istore (lv' := [(4, .int 0), (0, .ref (ad 1)), (1, .int (nI x)), (2, .long v)]) hx hb d_Lv_valueFor_1 hl (by decide) rfl (fun ls hl => ?_)
  refine lp_Lv_valueFor l C0 dC dI cI cL cZ ad K F S D U PT n hn nd hWn hRw v x hx1 hK hA (fun V H locs ls hV hP hD hS hl => ?_) (x + 1) 0 V ⟨by omega, fun z hz => by omega⟩ s.heap [] ls hP hD hS (lv_sub hl [1, 2, 3, 0] rfl)
  refine lv_aload_n hx hb d_Lv_valueFor_29 rfl (lv_at hl 0 rfl) ?_
  refine va_get (D := (dC, dI)) (ci := 1) (v := .ref (ad 7)) (C := R_Lv) (T := F_Lv) (N := 8) hx hb htb ul_Lv hown hK hP 0 rfl rfl 5 (by decide) (htb _ mw_34) (fun _ h9 => h9) rfl d_Lv_valueFor_30 ?_
  refine lv_iload_n hx hb d_Lv_valueFor_33 rfl (lv_at hl 1 rfl) ?_
  refine ry_iald (D := (dC, dI)) (j := x) hx hb hK hP 6 0 rfl rfl (by omega) (by decide) d_Lv_valueFor_34 ?_
  exact W.iret (v := (V x)) hx hb hr (fun t ht hW => ⟨⟨(V x), V, rfl, (hV x (by omega)), by rw [ht]; exact hP, va_K.moved hW.alike hK, hD⟩, hS.F ht⟩) hS.2.2 d_Lv_valueFor_35
end
section
/-! What a throw needs: the exceptions' words, Throwable's two statics, the texts. -/
theorem dc_of {y : MethodName} {b : ByteArray} {n : Nat} {r : Option FieldType} {args : Array Value} {s : State} (h1 : (Cond.instanceMethod y).before args s = true) (h2 : (Cond.code y b n r).before args s = true) : (Cond.declares y).before args s = true := by
  obtain ⟨mk, meth, hn, hm, hst, hab⟩ := Cond.instanceMethod_spec h1
  obtain ⟨meth', c, hm', -, -, -, -, -, -, hsig⟩ := Cond.code_spec hn h2
  cases hm.symm.trans hm'
  simp [Cond.before, Cond.holds, Cond.value, hn, hm, hst, hsig]
theorem cs_of {X : String} {args : Array Value} {s : State} (h : (Cond.initialized X).before args s = true) : (Cond.castable X X).before args s = true := by
  cases h1 : s.vm.findClass X with
  | none => simp [Cond.before, Cond.holds, Cond.value, h1] at h
  | some c => simp [Cond.before, Cond.holds, Cond.value, h1, va_asg]
/-- a static field as it is laid, in a cell that nobody here writes -/
def lsq (C n d : String) (A : Nat → Prop) (U : State) (H : Heap) : Prop := ∃ (c : ClassId) (k : Class) (i : Nat) (f : Field) (a : Nat) (cell : Cell), U.vm.findClass C = some c ∧ U.fieldFound? C n d = some (c, k, i, f) ∧ f.isStatic = true ∧ k.statics = some a ∧ H[a]? = some cell ∧ cell.vm.isStatics = true ∧ cell.cls = c ∧ f.slot < cell.slots.size ∧ k.staticTypes[f.slot]? = some f.type ∧ ¬ A a
theorem lsq.moved {C n d : String} {A : Nat → Prop} {u U : State} {H : Heap} (hvm : u.vm.Alike U.vm) (h : lsq C n d A u H) : lsq C n d A U H := by
  obtain ⟨c, k, i, f, a, cell, h0, h1, h2, h3, h4, h5, h6, h7, h8, h9⟩ := h
  obtain ⟨k', hi', he⟩ := State.fieldFound?_setVm hvm h1
  exact ⟨c, k', i, f, a, cell, by rw [hvm.findClass]; exact h0, hi', h2, by rw [he]; exact h3, h4, h5, h6, h7, by rw [he]; exact h8, h9⟩
theorem lsq.kept {C n d : String} {A : Nat → Prop} {U : State} {H H1 : Heap} (h : lsq C n d A U H) (hq : ∀ a : Nat, a < H.size → ¬ A a → H1[a]? = H[a]?) : lsq C n d A U H1 := by
  obtain ⟨c, k, i, f, a, cell, h0, h1, h2, h3, h4, h5, h6, h7, h8, h9⟩ := h
  exact ⟨c, k, i, f, a, cell, h0, h1, h2, h3, by rw [hq a (Array.getElem?_eq_some_iff.mp h4).1 h9]; exact h4, h5, h6, h7, h8, h9⟩
theorem lsq.narrow {C n d : String} {A B : Nat → Prop} {U : State} {H : Heap} (h : lsq C n d A U H) (hAB : ∀ q, B q → A q) : lsq C n d B U H := by
  obtain ⟨c, k, i, f, a, cell, h0, h1, h2, h3, h4, h5, h6, h7, h8, h9⟩ := h
  exact ⟨c, k, i, f, a, cell, h0, h1, h2, h3, h4, h5, h6, h7, h8, fun z => h9 (hAB a z)⟩
theorem lsq_of {C n d : String} {A : Nat → Prop} {args : Array Value} {s : State} (h : (Cond.laysStatic C n d).before args s = true) (hA : ∀ a : Nat, a < s.heap.size → ¬ A a) : lsq C n d A s s.heap := by
  obtain ⟨c, k, i, f, a, cell, h0, h1, h2, h3, h4, h5, h6, h7, h8⟩ := Cond.laysStatic_spec h
  exact ⟨c, k, i, f, a, cell, h0, h1, h2, h3, h4, h5, h6, h7, h8, hA a (Array.getElem?_eq_some_iff.mp h4).1⟩
theorem lsq_use {C n d : String} {A : Nat → Prop} {args : Array Value} {s : State} (h : lsq C n d A s s.heap) : (Cond.laysStatic C n d).before args s = true := by
  obtain ⟨c, k, i, f, a, cell, h0, h1, h2, h3, h4, h5, h6, h7, h8, -⟩ := h
  simp [Cond.before, Cond.holds, Cond.value, h0, h1, h2, h3, h4, h5, h6, h7, h8]
/-- Throwable's two statics -/
def thx (A : Nat → Prop) (U : State) (H : Heap) : Prop := (va_Zq Bundle.tN "UNASSIGNED_STACK" Bundle.steD A U H ∧ va_Zq Bundle.tN "SUPPRESSED_SENTINEL" Bundle.listD A U H) ∧ lsq Bundle.tN "UNASSIGNED_STACK" Bundle.steD A U H ∧ lsq Bundle.tN "SUPPRESSED_SENTINEL" Bundle.listD A U H
theorem thx.moved {A : Nat → Prop} {u U : State} {H : Heap} (hvm : u.vm.Alike U.vm) (h : thx A u H) : thx A U H := ⟨⟨h.1.1.moved hvm, h.1.2.moved hvm⟩, h.2.1.moved hvm, h.2.2.moved hvm⟩
theorem thx.kept {A : Nat → Prop} {U : State} {H H1 : Heap} (h : thx A U H) (hq : ∀ a : Nat, a < H.size → ¬ A a → H1[a]? = H[a]?) : thx A U H1 := ⟨⟨h.1.1.kept hq, h.1.2.kept hq⟩, h.2.1.kept hq, h.2.2.kept hq⟩
theorem thx.narrow {A B : Nat → Prop} {U : State} {H : Heap} (h : thx A U H) (hAB : ∀ q, B q → A q) : thx B U H := ⟨⟨h.1.1.narrow hAB, h.1.2.narrow hAB⟩, h.2.1.narrow hAB, h.2.2.narrow hAB⟩
theorem zq_ref {C n d : String} {A : Nat → Prop} {args : Array Value} {s : State} (h : va_Zq C n d A s s.heap) : (Cond.isRef (.static C n d)).before args s = true := by
  rcases h with h | ⟨t, h⟩ <;>
  · obtain ⟨cf, kf, fi, f, a, cell, h1, h2, h3, h4, h5, h6, h7, h8⟩ := h
    have hv := h7
    simp [Cond.before, Cond.holds, Cond.value, Term.eval, State.fieldNamed?, h1, h2, h4, h5, h6, hv]
def strs (U : State) : Prop := (∃ a, vk_R R_Lv 59 "more than 60 NEXTs in one another" a U) ∧ (∃ a, vk_R R_Lv 66 "there are 120 levels" a U) ∧ (∃ a, vk_R R_LR 138 "no such parameter" a U) ∧ (∃ a, vk_R R_LR 136 "no such level" a U) ∧ (∃ a, vk_R R_LR 60 "no such region" a U) ∧ (∃ a, vk_R R_LR 98 "there are 10 unknowns" a U) ∧ (∃ a, vk_R R_LR 107 "no such unknown" a U) ∧ (∃ a, vk_R R_LR 111 "k is not in -20 .. 20" a U) ∧ (∃ a, vk_R R_LR 117 "there are 30 needs" a U)
theorem strs.by {u U : State} (h : ∀ {own tx : String} {k a : Nat}, vk_R own k tx a u → vk_R own k tx a U) (hs : strs u) : strs U := by
  obtain ⟨⟨a1, h1⟩, ⟨a2, h2⟩, ⟨a3, h3⟩, ⟨a4, h4⟩, ⟨a5, h5⟩, ⟨a6, h6⟩, ⟨a7, h7⟩, ⟨a8, h8⟩, ⟨a9, h9⟩⟩ := hs
  exact ⟨⟨a1, h h1⟩, ⟨a2, h h2⟩, ⟨a3, h h3⟩, ⟨a4, h h4⟩, ⟨a5, h h5⟩, ⟨a6, h h6⟩, ⟨a7, h h7⟩, ⟨a8, h h8⟩, ⟨a9, h h9⟩⟩
theorem strs.warm {s U : State} (hW : s.WarmedH U.vm) (h : strs s) : strs U := strs.by (fun z => vk_R.warm hW z) h
theorem strs.same {u U : State} (hv : U.vm = u.vm) (h : strs u) : strs U := strs.by (fun z => vk_R.same hv z) h
abbrev exN : List String := ["java/lang/RuntimeException", "java/lang/Exception"]
theorem ex_fit : ∀ n ∈ exN, Bundle.fit n = true := by decide +kernel
section EXA
variable {args : Array Value} {s : State}
set_option maxRecDepth 100000 in
set_option maxHeartbeats 4000000 in
theorem ex_atoms {own X : String} {ic : Nat} (htb : ∀ w ∈ tb, w.before args s = true) (hX : X = "java/lang/IllegalArgumentException" ∨ X = "java/lang/IllegalStateException" ∨ X = "java/lang/IndexOutOfBoundsException") (hml : (Cond.methodLink own ic (Bundle.initS X)).before args s = true) {A : Nat → Prop} (hx : thx A s s.heap) :
    ∀ a ∈ Bundle.ownAtoms own ic X exN, a.before args s = true := by
  have hi : (Cond.initialized X).before args s = true := by rcases hX with rfl | rfl | rfl <;> exact htb _ (tb_t (by decide +kernel) rfl)
  have d1 : (Cond.declares (Bundle.initS "java/lang/RuntimeException")).before args s = true := dc_of (b := Bundle.six) (n := 2) (r := none) (htb _ (tb_t (by decide +kernel) rfl)) (htb _ (tb_t (by decide +kernel) rfl))
  have d2 : (Cond.declares (Bundle.initS "java/lang/Exception")).before args s = true := dc_of (b := Bundle.six) (n := 2) (r := none) (htb _ (tb_t (by decide +kernel) rfl)) (htb _ (tb_t (by decide +kernel) rfl))
  have d3 : (Cond.declares (Bundle.initS Bundle.tN)).before args s = true := dc_of (b := Jvm.LibCode.Throwable.InitS.code) (n := 2) (r := none) (htb _ (tb_t (by decide +kernel) rfl)) (htb _ (tb_t (by decide +kernel) rfl))
  intro a ha
  simp only [Bundle.ownAtoms, Bundle.throwableAtoms, Bundle.throwableSAtoms, Bundle.chainSAtoms, Bundle.passSAtoms, List.mem_append, List.mem_cons, List.not_mem_nil, or_false, false_or] at ha
  repeat' (refine Or.elim ha ?_ ?_ <;> clear ha <;> intro ha)
  all_goals subst ha
  all_goals first
    | exact hml
    | exact cs_of hi
    | exact d1
    | exact d2
    | exact d3
    | exact zq_ref hx.1.1
    | exact zq_ref hx.1.2
    | exact lsq_use hx.2.1
    | exact lsq_use hx.2.2
    | exact htb _ (tb_t (by decide +kernel) rfl)
    | (rcases hX with rfl | rfl | rfl <;> exact htb _ (tb_t (by decide +kernel) rfl))
end EXA
end
section
/-! Methods that may throw: start, calls, throw sites. -/
abbrev wz_P (D : va_G) (cl : List vw_C) (wc : va_W) (tys : List (ClassId × FieldType)) (sz : Nat) (U : State) : Prop := wy_P D cl wc tys sz U ∧ thx (va_A wc sz) U U.heap ∧ strs U
section WZ
variable {p : Program} {l : Launch} {e : Env} {R : Room} {s : State} {m : MethodId} {args : Array Value} {below : List Frame} {meth : Method} {c : Code} {H : Heap} {locs : List Loc} {cells slots : Nat} {Q : State → Prop}
variable {cc : ByteArray} {pc : Nat} {ls : Array Slot} {rest : List Value} {D : va_G} {cl : List vw_C} {A : Nat → Prop} {tys : List (ClassId × FieldType)} {ws wc wr : va_W}
variable {ρ σ : Type} {rv : ρ → Option Value} {post : ρ → σ → Prop} {pt : String → σ → Prop} {wd : σ → va_W} {y : MethodName} {bytes : ByteArray} {maxL nL n index : Nat} {ret : Option FieldType} {rm : Room} {own C : String} {As st0 : List Value} {b : Nat}
theorem wz_blind {sz : Nat} : FrameBlind (va_Pc As (wz_P D cl wc tys sz)) := fun a U g mk q => ⟨q.1, ⟨q.2.1.1, q.2.1.2.1, va_K.moved (u := U) (U := U.calling g mk a) (Vm.Alike.refl U.vm) q.2.1.2.2.1, q.2.1.2.2.2⟩, thx.moved (u := U) (U := U.calling g mk a) (Vm.Alike.refl U.vm) q.2.2.1, strs.same (u := U) (U := U.calling g mk a) rfl q.2.2.2⟩
theorem wz_start (hx : thx A s s.heap) (hs : strs s) (hS : va_S A s.heap H locs) (hF : ∀ q, va_A wc H.size q → A q) (hPc : va_P D cl wc H) (hK : va_K D cl tys s) (hDc : va_D (fun _ => True) wc) : ∀ U : State, U.heap = H → s.WarmedH U.vm → wz_P D cl wc tys H.size U := fun U hU hW =>
  ⟨⟨by rw [hU], by rw [hU]; exact hPc, va_K.moved hW.alike hK, hDc⟩, by rw [hU]; exact ((hx.kept (fun a h1 h2 => hS.2.1 a h1 h2)).narrow hF).moved hW.alike, hs.warm hW⟩
theorem wz_callV (S : CallFix p m c cc nL s args tb own) (hM : wx_Met l y (Cond.code y bytes maxL ret :: tb) rm (va_Pc (.ref b :: As) (wz_P D cl wc tys H.size)) (wx_Q rv post pt (wy_B D cl tys (va_A wc H.size) wd) (va_A wc H.size)) (va_A wc H.size)) (hG : GoodIn tb (wsV own index C y (Cond.code y bytes maxL ret :: tb))) (hrc : rm.cells = 1) (hrs : rm.slots = 6)
    (hd : y.cls = C ∧ y.cls ≠ "java/lang/invoke/MethodHandle" ∧ y.cls ≠ "java/lang/invoke/VarHandle" ∧ (parseMethodDescriptor y.desc).map (fun d => d.parameters.length) = some n) (hRm : rm.frames + 1 ≤ R.frames ∧ 8 + (maxL + 11) + rm.locals ≤ R.locals)
    (hx : thx A s s.heap) (hs : strs s) (hP : va_P D cl ws H) (hD : va_D A ws) (hS : va_S A s.heap H locs) (hA : ∀ q, s.heap.size ≤ q → A q) (hK : va_K D cl tys s)
    (isC isR : List Nat) (hC : isC.map (fun i => ws[i]?) = wc.map some) (hR : isR.map (fun i => ws[i]?) = wr.map some) (hnd : va_nd isR = true) (hdis : ∀ i ∈ isR, i ∉ isC) (hPc : va_P D cl wc H) (hDc : va_D (fun _ => True) wc)
    {q : vw_C} {q0 ci : Nat} {fs : List Value} (hc : cl[ci]? = some q) (he : wc[q0]? = some (b, .inr (ci, fs))) (hCq : q.1 = C)
    (hn : As.length = n) (hsize : ls.size = nL) (hstack : st0 = As.reverse ++ .ref b :: rest) (hW : (rest.map fun v => v.category).sum ≤ 8) (hdg : decode cc pc = .ok (.invokevirtual index, 3)) (hf : cells + 1 ≤ R.cells ∧ slots + 6 ≤ R.slots)
    (kk : ∀ (r : ρ) (u : σ) (H1 : Heap) (locs1 : List Loc), post r u → va_P D cl (wr ++ wd u) H1 → va_D A (wr ++ wd u) → va_S A s.heap H1 locs1 → W p l e R s m args below meth c H1 locs1 cells slots Q (F0 m (pc + 3) ls ((rv r).toList ++ rest)))
    (kt : ∀ (x : Nat) (X : String) (u : σ) (H1 : Heap) (locs1 : List Loc), pt X u → (∃ cell : Cell, H1[x]? = some cell ∧ cell.vm.isStatics = false ∧ s.vm.findClass X = some cell.cls) → va_P D cl (wr ++ wd u) H1 → va_D A (wr ++ wd u) → va_S A s.heap H1 locs1 → wx_Th p l e R s m args below meth c H1 locs1 (cells + 1) (slots + 6) Q (F0 m pc ls rest) x) : W p l e R s m args below meth c H locs cells slots Q (F0 m pc ls st0) :=
  wz_call (wx_runV S hM (cwV n S.2.2.2.2 hG rfl hrc hrs hd hRm) ⟨wz_blind, by rw [← hCq]; exact va_recv hK hPc hc he, fun U hU hW => ⟨rfl, wz_start hx hs hS (va_free (wc := wc) hD hS hA isC hC) hPc hK hDc U hU hW⟩⟩ rfl hn hsize hstack (lv_room hW) hdg hf) hP hD hS hA isC isR hC hR hnd hdis kk kt
/-- 'throw new X("..")' where nothing has been written: the world is as it was -/
theorem wz_throw {Ad : Nat → Prop} (hexec : p.tables.exec = Jvm.exec) (hb : c.code = cc) (htr : ∀ e, l.admits e → e.platform.stackTraces = false) {X tx : String} {i0 i1 i2 : Nat} (hown : s.vm.findClass own = some m.cls) (htb : ∀ w ∈ tb, w.before args s = true)
    (hX : X = "java/lang/IllegalArgumentException" ∨ X = "java/lang/IllegalStateException" ∨ X = "java/lang/IndexOutOfBoundsException") (hcl : Cond.classLink own i0 X ∈ tb) (hins : Cond.instantiable X 6 ∈ tb) (hini : Cond.initialized X ∈ tb) (hml : Cond.methodLink own i2 (Bundle.initS X) ∈ tb) (hx : thx A s s.heap) (hZ : ∃ q, vk_R own i1 tx q s)
    (ht : c.exceptionTable.toList = []) (hlocks : meth.locks = false) (hsize : ls.size = c.maxLocals)
    (hd0 : decode cc pc = .ok (.new i0, 3)) (hd3 : decode cc (pc + 3) = .ok (.dup, 1)) (hd4 : decode cc (pc + 4) = .ok (.ldc i1, 2)) (hd6 : decode cc (pc + 6) = .ok (.invokespecial i2, 3)) (hd9 : decode cc (pc + 9) = .ok (.athrow, 1))
    (hR : 1 ≤ R.cells ∧ 6 ≤ R.slots ∧ 5 < R.frames ∧ 82 ≤ R.locals) {free : Addr → Prop} (u : σ) (hu : pt X u) (hP : va_P D cl (wd u) s.heap) (hK : va_K D cl tys s) (hD : va_D Ad (wd u)) :
    W p l e R s m args below meth c s.heap [] 0 0 (wx_MQ below (wx_Q rv post pt (wy_B D cl tys Ad wd) A) args s free) (F0 m pc ls []) := by
  obtain ⟨q, hZ⟩ := hZ
  refine wx_throw hexec hb htr hown (by rcases hX with rfl | rfl | rfl <;> decide +kernel) ex_fit (htb _ hcl) (htb _ hins) (htb _ hini) (ex_atoms htb hX (htb _ hml) hx) hZ ht hlocks hsize hd0 hd3 hd4 hd6 hd9 hR (fun t x hz hk hW hex => ?_)
  exact ⟨Or.inr ⟨x, X, u, rfl, hu, ⟨hP.kept (fun k q hq => hk q.1 (hP k q hq).lt), va_K.moved hW.alike hK, hD⟩, hex⟩, hz, fun q h1 _ => hk q h1⟩
end WZ
end
section
set_option maxHeartbeats 4000000 in
set_option maxRecDepth 100000 in
theorem c_Lv_checkNew (l : Launch) (htr : ∀ e, l.admits e → e.platform.stackTraces = false) (dC : Nat → ClassId) (dI : Nat → Nat → Nat) (cI cL cZ : ClassId) (ad : Nat → Nat) (K F S D U V : Nat → Int32) (PT : Nat → Int64) (n : Nat) (hn : n ≤ 120) (k : Nat) (hk4 : k ≤ 4) (f : Int32) (a x : Nat) (hf : k = 2 → f = nI a) (ha : k = 2 → a < 120) (hx2 : k = 2 → D a = nI x) (hx3 : x < 1000) (sz : Nat) : wx_Met l y_Lv_checkNew (cw_Lv_checkNew :: tb) (rmH 6 1 6) (va_Pc [.ref (ad 1), .int (nI k), .int f] (wz_P (dC, dI) classes (wLv cI cL ad K F S D U V PT n) (tyI cI cL cZ) sz)) (wx_Q ry_v (fun _ (u : Unit) => ¬ (k = 2 ∧ 60 ≤ x) ∧ n < 120) (fun X (u : Unit) => (X = "java/lang/IllegalArgumentException" ∧ k = 2 ∧ 60 ≤ x) ∨ (X = "java/lang/IllegalStateException" ∧ ¬ (k = 2 ∧ 60 ≤ x) ∧ n = 120)) (wy_B (dC, dI) classes (tyI cI cL cZ) (va_A (wLv cI cL ad K F S D U V PT n) sz) (fun u : Unit => (wLv cI cL ad K F S D U V PT n))) (va_A (wLv cI cL ad K F S D U V PT n) sz)) (va_A (wLv cI cL ad K F S D U V PT n) sz) := by
  refine wx_ofW (cc := b_Lv_checkNew) (maxL := 3) (ret := none) (by decide +kernel) rfl ?_
  intro p e s m args below meth c s₁ B hml0 ht0 hv
  have C0 := cx_of B hml0 rfl
  obtain ⟨hx, hb, hr, hml, hown, htb, hlocks⟩ := id C0
  obtain ⟨rfl, ⟨hsz, hP, hK, hD0⟩, hth, hst⟩ := hv
  subst hsz
  have hD := hD0.self (sz := s.heap.size)
  generalize hAe : va_A (wLv cI cL ad K F S D U V PT n) s.heap.size = A at hD hth ⊢
  have hA : ∀ q : Nat, s.heap.size ≤ q → A q := fun q h => by rw [← hAe]; exact Or.inr h
  have hS : va_S A s.heap s.heap [] := va_S.rf
  have hl := lv_entry ([.ref (ad 1), .int (nI k), .int f]) (n := 3) (Nat.le_of_ble_eq_true rfl)
  rw [lg_entry_eq]
  generalize (lg_sl ([.ref (ad 1), .int (nI k), .int f]) ++ List.replicate (3 - (lg_sl ([.ref (ad 1), .int (nI k), .int f])).length) Slot.unset).toArray = ls at hl ⊢
  have hl : lv_has ls 3 [(0, .ref (ad 1)), (1, .int (nI k)), (2, .int f)] := hl
  have hP : va_P (dC, dI) classes [((ad 1), .inr (1, [.ref (ad 2), .ref (ad 3), .ref (ad 4), .ref (ad 5), .ref (ad 6), .ref (ad 7), .ref (ad 8), .int (nI n)])), ((ad 2), .inl (cI, 120, .inl K)), ((ad 3), .inl (cI, 120, .inl F)), ((ad 4), .inl (cI, 120, .inl S)), ((ad 5), .inl (cI, 120, .inl D)), ((ad 6), .inl (cI, 120, .inl U)), ((ad 7), .inl (cI, 120, .inl V)), ((ad 8), .inl (cL, 3840, .inr (.inl PT)))] s.heap := hP
  have hD : va_D A [((ad 1), .inr (1, [.ref (ad 2), .ref (ad 3), .ref (ad 4), .ref (ad 5), .ref (ad 6), .ref (ad 7), .ref (ad 8), .int (nI n)])), ((ad 2), .inl (cI, 120, .inl K)), ((ad 3), .inl (cI, 120, .inl F)), ((ad 4), .inl (cI, 120, .inl S)), ((ad 5), .inl (cI, 120, .inl D)), ((ad 6), .inl (cI, 120, .inl U)), ((ad 7), .inl (cI, 120, .inl V)), ((ad 8), .inl (cL, 3840, .inr (.inl PT)))] := hD
  refine lv_iload_n hx hb d_Lv_checkNew_0 rfl (lv_at hl 1 rfl) ?_
  refine lv_iconst (v := 2) hx hb d_Lv_checkNew_1 (by decide) ?_
  refine lv_icmp_ne (tgt := 26) hx hb d_Lv_checkNew_2 (by decide) (fun c_2 => ?_) (fun c_2 => ?_)
  · refine lv_aload_n hx hb d_Lv_checkNew_26 rfl (lv_at hl 0 rfl) ?_
    refine va_get (D := (dC, dI)) (ci := 1) (v := .int (nI n)) (C := R_Lv) (T := F_Lv) (N := 8) hx hb htb ul_Lv hown hK hP 0 rfl rfl 7 (by decide) (htb _ mw_36) (fun _ h9 => h9) rfl d_Lv_checkNew_27 ?_
    refine lv_bipush (v := 120) hx hb d_Lv_checkNew_30 (by decide) ?_
    refine lv_icmp_lt (tgt := 45) hx hb d_Lv_checkNew_32 (by decide) (fun c_32 => ?_) (fun c_32 => ?_)
    · exact wx_ret (W.vret hx hb hr (fun t ht hW => ⟨Or.inl ⟨(), (), rfl, ⟨(fun z => c_2 (by rw [z.1]; rfl)), (nI_ltI (b := 120) (by omega) (by decide)).mp c_32⟩, by rw [ht]; exact hP, va_K.moved hW.alike hK, hD⟩, hS.F ht⟩) hS.2.2 d_Lv_checkNew_45)
    · exact wz_throw hx hb htr hown htb (Or.inr (Or.inl rfl)) mw_311 mw_312 mw_10 mw_321 hth hst.2.1 ht0 hlocks (by rw [hml]; exact hl.1) d_Lv_checkNew_35 d_Lv_checkNew_38 d_Lv_checkNew_39 d_Lv_checkNew_41 d_Lv_checkNew_44 ⟨Nat.le_of_ble_eq_true rfl, Nat.le_of_ble_eq_true rfl, Nat.le_of_ble_eq_true rfl, Nat.le_of_ble_eq_true rfl⟩ () (Or.inr ⟨rfl, (fun z => c_2 (by rw [z.1]; rfl)), by have h9 : ¬ n < 120 := (fun z => c_32 ((nI_ltI (b := 120) (by omega) (by decide)).mpr z)); omega⟩) hP hK hD
  · have hk2 : k = 2 := (nI_eq (b := 2) (by omega) (by decide)).mp c_2
    subst hk2
    have hf := hf rfl
    have ha := ha rfl
    have hx2 := hx2 rfl
    rw [hf] at hl
    refine lv_aload_n hx hb d_Lv_checkNew_5 rfl (lv_at hl 0 rfl) ?_
    refine va_get (D := (dC, dI)) (ci := 1) (v := .ref (ad 5)) (C := R_Lv) (T := F_Lv) (N := 8) hx hb htb ul_Lv hown hK hP 0 rfl rfl 3 (by decide) (htb _ mw_32) (fun _ h9 => h9) rfl d_Lv_checkNew_6 ?_
    refine lv_iload_n hx hb d_Lv_checkNew_9 rfl (lv_at hl 2 rfl) ?_
    refine ry_iald (D := (dC, dI)) (j := a) hx hb hK hP 4 0 rfl rfl (by omega) (by decide) d_Lv_checkNew_10 ?_
    rw [hx2]
    refine lv_bipush (v := 60) hx hb d_Lv_checkNew_11 (by decide) ?_
    refine lv_icmp_lt (tgt := 26) hx hb d_Lv_checkNew_13 (by decide) (fun c_13 => ?_) (fun c_13 => ?_)
    · refine lv_aload_n hx hb d_Lv_checkNew_26 rfl (lv_at hl 0 rfl) ?_
      refine va_get (D := (dC, dI)) (ci := 1) (v := .int (nI n)) (C := R_Lv) (T := F_Lv) (N := 8) hx hb htb ul_Lv hown hK hP 0 rfl rfl 7 (by decide) (htb _ mw_36) (fun _ h9 => h9) rfl d_Lv_checkNew_27 ?_
      refine lv_bipush (v := 120) hx hb d_Lv_checkNew_30 (by decide) ?_
      refine lv_icmp_lt (tgt := 45) hx hb d_Lv_checkNew_32 (by decide) (fun c_32 => ?_) (fun c_32 => ?_)
      · exact wx_ret (W.vret hx hb hr (fun t ht hW => ⟨Or.inl ⟨(), (), rfl, ⟨(fun z => absurd z.2 (Nat.not_le.mpr ((nI_ltI (b := 60) (by omega) (by decide)).mp c_13))), (nI_ltI (b := 120) (by omega) (by decide)).mp c_32⟩, by rw [ht]; exact hP, va_K.moved hW.alike hK, hD⟩, hS.F ht⟩) hS.2.2 d_Lv_checkNew_45)
      · exact wz_throw hx hb htr hown htb (Or.inr (Or.inl rfl)) mw_311 mw_312 mw_10 mw_321 hth hst.2.1 ht0 hlocks (by rw [hml]; exact hl.1) d_Lv_checkNew_35 d_Lv_checkNew_38 d_Lv_checkNew_39 d_Lv_checkNew_41 d_Lv_checkNew_44 ⟨Nat.le_of_ble_eq_true rfl, Nat.le_of_ble_eq_true rfl, Nat.le_of_ble_eq_true rfl, Nat.le_of_ble_eq_true rfl⟩ () (Or.inr ⟨rfl, (fun z => absurd z.2 (Nat.not_le.mpr ((nI_ltI (b := 60) (by omega) (by decide)).mp c_13))), by have h9 : ¬ n < 120 := (fun z => c_32 ((nI_ltI (b := 120) (by omega) (by decide)).mpr z)); omega⟩) hP hK hD
    · exact wz_throw hx hb htr hown htb (Or.inl rfl) mw_243 mw_244 mw_9 mw_285 hth hst.1 ht0 hlocks (by rw [hml]; exact hl.1) d_Lv_checkNew_16 d_Lv_checkNew_19 d_Lv_checkNew_20 d_Lv_checkNew_22 d_Lv_checkNew_25 ⟨Nat.le_of_ble_eq_true rfl, Nat.le_of_ble_eq_true rfl, Nat.le_of_ble_eq_true rfl, Nat.le_of_ble_eq_true rfl⟩ () (Or.inl ⟨rfl, rfl, Nat.le_of_not_lt fun z => c_13 ((nI_ltI (b := 60) (by omega) (by decide)).mpr z)⟩) hP hK hD
end
section
/-! A new level: the table grows by one row. -/
abbrev LvS : Type := (Nat → Int32) × (Nat → Int32) × (Nat → Int32) × (Nat → Int32) × (Nat → Int32) × (Nat → Int64) × Nat
abbrev wLvS (cI cL : ClassId) (ad : Nat → Nat) (V : Nat → Int32) (u : LvS) : va_W := wLv cI cL ad u.1 u.2.1 u.2.2.1 u.2.2.2.1 u.2.2.2.2.1 V u.2.2.2.2.2.1 u.2.2.2.2.2.2
def LvOk (nd : Nat → Nat × Nat × Nat) (n : Nat) (K F S D U : Nat → Int32) (PT : Nat → Int64) : Prop := Wn nd n ∧ Rw nd n K F S ∧ (∀ j, j < n → D j = nI (dp nd j)) ∧ (∀ j, j < n → U j = nI (us nd j)) ∧ ∀ j, j < n → ∀ g, g < 32 → PT (j * 32 + g) = en (pb g nd j)
def LvU (nd : Nat → Nat × Nat × Nat) (u : LvS) : Prop := LvOk nd u.2.2.2.2.2.2 u.1 u.2.1 u.2.2.1 u.2.2.2.1 u.2.2.2.2.1 u.2.2.2.2.2.1
def ext (nd : Nat → Nat × Nat × Nat) (n : Nat) (q : Nat × Nat × Nat) : Nat → Nat × Nat × Nat := fun j => if j = n then q else nd j
theorem ext_n {nd : Nat → Nat × Nat × Nat} {n : Nat} {q : Nat × Nat × Nat} : ext nd n q n = q := by rw [ext, if_pos rfl]
theorem ext_lt {nd : Nat → Nat × Nat × Nat} {n : Nat} {q : Nat × Nat × Nat} {j : Nat} (h : j < n) : ext nd n q j = nd j := by rw [ext, if_neg (by omega)]
theorem ext_fo {α : Type} {Al : Nat → Nat → α → α → α} {d : α} {nd : Nat → Nat × Nat × Nat} {n : Nat} {q : Nat × Nat × Nat} {j : Nat} (h : j < n) : fo Al d (ext nd n q) j = fo Al d nd j := fo_congr (j + 1) j (by omega) (fun i hi => ext_lt (by omega))
theorem ext_row {nd : Nat → Nat × Nat × Nat} {n : Nat} {q : Nat × Nat × Nat} (h : rowOk q n) : rowOk (ext nd n q n) n := by rw [ext_n]; exact h
/-- what came of a call of 'made' that returned -/
def mkd (nd : Nat → Nat × Nat × Nat) (n : Nat) (q : Nat × Nat × Nat) (r : Int32) (nd' : Nat → Nat × Nat × Nat) (n' : Nat) : Prop :=
  (∃ j, j < n ∧ nd j = q ∧ r = nI j ∧ nd' = nd ∧ n' = n) ∨ ((∀ j, j < n → nd j ≠ q) ∧ n < 120 ∧ ¬ (q.1 = 2 ∧ 60 ≤ dp nd q.2.1) ∧ r = nI n ∧ nd' = ext nd n q ∧ n' = n + 1)
/-- what came of one that threw -/
def mkx (nd : Nat → Nat × Nat × Nat) (n : Nat) (q : Nat × Nat × Nat) (X : String) : Prop :=
  (∀ j, j < n → nd j ≠ q) ∧ ((X = "java/lang/IllegalArgumentException" ∧ q.1 = 2 ∧ 60 ≤ dp nd q.2.1) ∨ (X = "java/lang/IllegalStateException" ∧ ¬ (q.1 = 2 ∧ 60 ≤ dp nd q.2.1) ∧ n = 120))
theorem row_inj {p q : Nat × Nat × Nat} {i j : Nat} (hp : rowOk p i) (hq : rowOk q j) (hi : i ≤ 120) (hj : j ≤ 120) (h1 : nI p.1 = nI q.1) (h2 : fF p = fF q) (h3 : fS p = fS q) : p = q := by
  obtain ⟨p1, p2, p3⟩ := p
  obtain ⟨q1, q2, q3⟩ := q
  obtain ⟨a1, a2, a3, a4, a5, a6⟩ := hp
  obtain ⟨b1, b2, b3, b4, b5, b6⟩ := hq
  simp only at *
  have e1 : p1 = q1 := (nI_eq (by omega) (by omega)).mp h1
  subst e1
  have e2 : p2 = q2 := by
    rcases Nat.eq_zero_or_pos p1 with z | z
    · rw [a5 z, b5 z]
    · rw [fF_n (q := (p1, p2, p3)) z, fF_n (q := (p1, q2, q3)) z] at h2
      have c1 : p2 < 120 := by
        rcases Nat.lt_or_ge p1 2 with y | y
        · have := a2 (by omega); omega
        · have := a3 y; omega
      have c2 : q2 < 120 := by
        rcases Nat.lt_or_ge p1 2 with y | y
        · have := b2 (by omega); omega
        · have := b3 y; omega
      exact (nI_eq (by omega) (by omega)).mp h2
  have e3 : p3 = q3 := by
    rcases Nat.lt_or_ge p1 3 with z | z
    · rw [a6 z, b6 z]
    · rw [fS_n (q := (p1, p2, p3)) z, fS_n (q := (p1, q2, q3)) z] at h3
      have c1 := a4 z
      have c2 := b4 z
      exact (nI_eq (by omega) (by omega)).mp h3
  subst e2; subst e3; rfl
def fnd (K F S : Nat → Int32) (n : Nat) (q : Nat × Nat × Nat) : Int32 := ff (fun j => decide (K j = nI q.1) && decide (F j = fF q) && decide (S j = fS q)) 0 n
theorem fnd_cases {nd : Nat → Nat × Nat × Nat} {n : Nat} {K F S : Nat → Int32} {q : Nat × Nat × Nat} (hW : Wn nd n) (hR : Rw nd n K F S) (hq : rowOk q n) : (fnd K F S n q = -1 ∧ ∀ j, j < n → nd j ≠ q) ∨ ∃ j, j < n ∧ nd j = q ∧ fnd K F S n q = nI j := by
  unfold fnd
  rcases ff_cases (P := fun j => decide (K j = nI q.1) && decide (F j = fF q) && decide (S j = fS q)) n 0 with ⟨h1, h2⟩ | ⟨j, h1, h2, h3, h4, h5⟩
  · refine Or.inl ⟨h1, fun j hj e => h2 j (Nat.zero_le _) (by omega) ?_⟩
    obtain ⟨a, b, c⟩ := hR j hj
    simp [a, b, c, e]
  · refine Or.inr ⟨j, by omega, ?_, h3⟩
    obtain ⟨a, b, c⟩ := hR j (by omega)
    simp only [Bool.and_eq_true, decide_eq_true_eq] at h4
    exact row_inj (hW.2.1 j (by omega)) hq (by have := hW.1; omega) hW.1 (by rw [← a]; exact h4.1.1) (by rw [← b]; exact h4.1.2) (by rw [← c]; exact h4.2)
theorem us_lt {nd : Nat → Nat × Nat × Nat} {n : Nat} (hW : ∀ j, j < n → rowOk (nd j) j) : ∀ (m j : Nat), j < m → j < n → us nd j < 32 := by
  intro m
  induction m with
  | zero => intro j h; omega
  | succ m ih =>
    intro j hj hn
    have hr := hW j hn
    rw [us_eq hr]
    obtain ⟨h1, h2, h3, h4, h5, h6⟩ := hr
    have p5 : ∀ a, a < 5 → 2 ^ a < 32 := by decide
    have o5 : ∀ x, x < 32 → ∀ y, y < 32 → x ||| y < 32 := by decide +kernel
    rcases (show (nd j).1 = 0 ∨ (nd j).1 = 1 ∨ (nd j).1 = 2 ∨ 3 ≤ (nd j).1 by omega) with k | k | k | k
    · simp [uA, k]
    · simp [uA, k]; exact p5 _ (h2 k)
    · have := ih (nd j).2.1 (by have := h3 (by omega); omega) (by have := h3 (by omega); omega); simp [uA, k]; omega
    · have a1 := ih (nd j).2.1 (by have := h3 (by omega); omega) (by have := h3 (by omega); omega)
      have a2 := ih (nd j).2.2 (by have := h4 (by omega); omega) (by have := h4 (by omega); omega)
      unfold uA
      rw [if_neg (by omega), if_neg (by omega), if_pos k, if_pos (by omega), if_pos k]
      exact o5 _ a1 _ a2
theorem jn_le {X Y : Nat → Nat} {B : Nat} (hX : ∀ i, i < 6 → X i ≤ B) (hY : ∀ i, i < 6 → Y i ≤ B) : ∀ i, i < 6 → jn X Y i ≤ B := fun i hi => by
  have a1 := hX i hi
  have a2 := hY i hi
  have c1 := hX 5 (by decide)
  have c2 := hY 5 (by decide)
  unfold jn
  split
  · omega
  · split <;> omega
theorem pb_le {nd : Nat → Nat × Nat × Nat} {n : Nat} (hW : ∀ j, j < n → rowOk (nd j) j) (g : Nat) : ∀ (m j : Nat), j < m → j < n → ∀ i, i < 6 → pb g nd j i ≤ dp nd j + 1 := by
  intro m
  induction m with
  | zero => intro j h; omega
  | succ m ih =>
    intro j hj hn i hi
    have hr := hW j hn
    rw [pb_eq g hr, dp_eq hr]
    obtain ⟨h1, h2, h3, h4, h5, h6⟩ := hr
    have s1 : ∀ a b : Nat, sg a b ≤ 1 := fun a b => by unfold sg; split <;> omega
    rcases (show (nd j).1 = 0 ∨ (nd j).1 = 1 ∨ (nd j).1 = 2 ∨ (nd j).1 = 3 ∨ (nd j).1 = 4 by omega) with k | k | k | k | k
    · have := s1 5 i; simp [pA, dA, k]; omega
    · simp only [pA, dA, k, if_true]
      split
      · have := s1 (nd j).2.1 i; omega
      · have := s1 5 i; omega
    · have a1 := ih (nd j).2.1 (by have := h3 (by omega); omega) (by have := h3 (by omega); omega) i hi
      simp [pA, dA, k, ra]
      split <;> omega
    · have a1 := ih (nd j).2.1 (by have := h3 (by omega); omega) (by have := h3 (by omega); omega)
      have a2 := ih (nd j).2.2 (by have := h4 (by omega); omega) (by have := h4 (by omega); omega)
      simp only [pA, dA, k]
      simp
      exact jn_le (B := max (dp nd (nd j).2.1) (dp nd (nd j).2.2) + 1) (fun i hi => by have := a1 i hi; omega) (fun i hi => by have := a2 i hi; omega) i hi
    · have a1 := ih (nd j).2.1 (by have := h3 (by omega); omega) (by have := h3 (by omega); omega)
      have a2 := ih (nd j).2.2 (by have := h4 (by omega); omega) (by have := h4 (by omega); omega)
      simp only [pA, dA, k]
      simp
      split
      · have := a2 i hi; omega
      · exact jn_le (B := max (dp nd (nd j).2.1) (dp nd (nd j).2.2) + 1) (fun i hi => by have := a1 i hi; omega) (fun i hi => by have := a2 i hi; omega) i hi
theorem pb_b {nd : Nat → Nat × Nat × Nat} {n : Nat} (hW : Wn nd n) (g : Nat) {j : Nat} (h : j < n) : (∀ i, i < 6 → pb g nd j i < 62) ∧ byt (pb g nd j) := by
  have h1 : ∀ i, i < 6 → pb g nd j i < 62 := fun i hi => by
    have a := pb_le hW.2.1 g (j + 1) j (by omega) h i hi
    have b := hW.2.2.1 j h
    omega
  exact ⟨h1, fun i hi => by have := h1 i hi; omega⟩
/-- the table with its new row is in order, and so are the arrays -/
theorem ext_Wn {nd : Nat → Nat × Nat × Nat} {n : Nat} {q : Nat × Nat × Nat} (hW : Wn nd n) (hq : rowOk q n) (hn : n < 120) (hnew : ∀ j, j < n → nd j ≠ q) (hd : ¬ (q.1 = 2 ∧ 60 ≤ dp nd q.2.1)) : Wn (ext nd n q) (n + 1) := by
  refine ⟨by omega, fun j hj => ?_, fun j hj => ?_, fun i j hi hj e => ?_⟩
  · rcases Nat.lt_or_ge j n with h | h
    · rw [ext_lt h]; exact hW.2.1 j h
    · rw [show j = n by omega]; exact ext_row hq
  · rcases Nat.lt_or_ge j n with h | h
    · unfold dp; rw [ext_fo h]; exact hW.2.2.1 j h
    · rw [show j = n by omega, dp_eq (ext_row hq), ext_n]
      obtain ⟨h1, h2, h3, h4, h5, h6⟩ := hq
      rcases (show q.1 < 2 ∨ q.1 = 2 ∨ 3 ≤ q.1 by omega) with k | k | k
      · unfold dA; rw [if_pos k]; omega
      · have a := h3 (by omega)
        have : dp (ext nd n q) q.2.1 = dp nd q.2.1 := ext_fo a
        unfold dA
        rw [if_neg (by omega), if_pos k, if_pos (by omega), this]
        have : ¬ 60 ≤ dp nd q.2.1 := fun z => hd ⟨k, z⟩
        omega
      · have a := h3 (by omega)
        have b := h4 k
        have e1 : dp (ext nd n q) q.2.1 = dp nd q.2.1 := ext_fo a
        have e2 : dp (ext nd n q) q.2.2 = dp nd q.2.2 := ext_fo b
        unfold dA
        rw [if_neg (by omega), if_neg (by omega), if_pos (by omega), if_pos k, e1, e2]
        have := hW.2.2.1 _ a
        have := hW.2.2.1 _ b
        omega
  · rcases Nat.lt_or_ge i n with h | h <;> rcases Nat.lt_or_ge j n with h' | h'
    · rw [ext_lt h, ext_lt h'] at e; exact hW.2.2.2 i j h h' e
    · rw [ext_lt h, show j = n by omega, ext_n] at e; exact absurd e (hnew i h)
    · rw [ext_lt h', show i = n by omega, ext_n] at e; exact absurd e.symm (hnew j h')
    · omega
theorem ext_dp {nd : Nat → Nat × Nat × Nat} {n : Nat} {q : Nat × Nat × Nat} (hq : rowOk q n) : dp (ext nd n q) n = dA q.1 (if 2 ≤ q.1 then dp nd q.2.1 else 0) (if 3 ≤ q.1 then dp nd q.2.2 else 0) := by
  rw [dp_eq (ext_row hq), ext_n]
  congr 1
  · split
    · rename_i h; exact ext_fo (hq.2.2.1 h)
    · rfl
  · split
    · rename_i h; exact ext_fo (hq.2.2.2.1 h)
    · rfl
theorem ext_us {nd : Nat → Nat × Nat × Nat} {n : Nat} {q : Nat × Nat × Nat} (hq : rowOk q n) : us (ext nd n q) n = uA q.1 q.2.1 (if 2 ≤ q.1 then us nd q.2.1 else 0) (if 3 ≤ q.1 then us nd q.2.2 else 0) := by
  rw [us_eq (ext_row hq), ext_n]
  congr 1
  · split
    · rename_i h; exact ext_fo (hq.2.2.1 h)
    · rfl
  · split
    · rename_i h; exact ext_fo (hq.2.2.2.1 h)
    · rfl
theorem ext_pb (g : Nat) {nd : Nat → Nat × Nat × Nat} {n : Nat} {q : Nat × Nat × Nat} (hq : rowOk q n) : pb g (ext nd n q) n = pA g q.1 q.2.1 (if 2 ≤ q.1 then pb g nd q.2.1 else sg 5) (if 3 ≤ q.1 then pb g nd q.2.2 else sg 5) := by
  rw [pb_eq g (ext_row hq), ext_n]
  congr 1
  · split
    · rename_i h; exact ext_fo (hq.2.2.1 h)
    · rfl
  · split
    · rename_i h; exact ext_fo (hq.2.2.2.1 h)
    · rfl
theorem if_lt {k B : Nat} {c : Prop} (hc : Decidable c) (h : c → k < B) (hB : 0 < B) : (if c then k else 0) < B := by
  by_cases h1 : c
  · rw [if_pos h1]; exact h h1
  · rw [if_neg h1]; exact hB
theorem if_pb {nd : Nat → Nat × Nat × Nat} {n a : Nat} {c : Prop} (hc : Decidable c) (hW : Wn nd n) (g : Nat) (h : c → a < n) : byt (if c then pb g nd a else sg 5) ∧ ∀ i, i < 6 → (if c then pb g nd a else sg 5) i < 127 := by
  by_cases h1 : c
  · rw [if_pos h1]; exact ⟨(pb_b hW g (h h1)).2, fun i hi => by have := (pb_b hW g (h h1)).1 i hi; omega⟩
  · rw [if_neg h1]; exact ⟨sg_byt, fun i hi => by unfold sg; split <;> omega⟩
theorem ext_ok {nd : Nat → Nat × Nat × Nat} {n : Nat} {K F S D U : Nat → Int32} {PT PT' : Nat → Int64} {q : Nat × Nat × Nat} (h : LvOk nd n K F S D U PT) (hq : rowOk q n) (hn : n < 120) (hnew : ∀ j, j < n → nd j ≠ q) (hd : ¬ (q.1 = 2 ∧ 60 ≤ dp nd q.2.1)) (h1 : ∀ g, g < 32 → PT' (n * 32 + g) = en (pb g (ext nd n q) n)) (h2 : ∀ z, z < n * 32 → PT' z = PT z) :
    LvOk (ext nd n q) (n + 1) (upd K n (nI q.1)) (upd F n (fF q)) (upd S n (fS q)) (upd D n (nI (dp (ext nd n q) n))) (upd U n (nI (us (ext nd n q) n))) PT' := by
  obtain ⟨hW, hR, hD, hU, hT⟩ := h
  refine ⟨ext_Wn hW hq hn hnew hd, fun j hj => ?_, fun j hj => ?_, fun j hj => ?_, fun j hj g hg => ?_⟩
  · rcases Nat.lt_or_ge j n with a | a
    · rw [pk_un (by omega), pk_un (by omega), pk_un (by omega), ext_lt a]; exact hR j a
    · rw [show j = n by omega, pk_us, pk_us, pk_us, ext_n]; exact ⟨rfl, rfl, rfl⟩
  · rcases Nat.lt_or_ge j n with a | a
    · rw [pk_un (by omega), hD j a]; unfold dp; rw [ext_fo a]
    · rw [show j = n by omega, pk_us]
  · rcases Nat.lt_or_ge j n with a | a
    · rw [pk_un (by omega), hU j a]; unfold us; rw [ext_fo a]
    · rw [show j = n by omega, pk_us]
  · rcases Nat.lt_or_ge j n with a | a
    · rw [h2 _ (by omega), hT j a g hg]; unfold pb; rw [ext_fo a]
    · rw [show j = n by omega]; exact h1 g hg
theorem pt_up {PT : Nat → Int64} {n i : Nat} {f : Nat → Int64} (h : ∀ g, g < i → PT (n * 32 + g) = f g) : ∀ g, g < i + 1 → vp_updL PT (n * 32 + i) (f i) (n * 32 + g) = f g := fun g hg => by
  rcases Nat.lt_or_ge g i with a | a
  · rw [pk_uLn (by omega)]; exact h g a
  · rw [show g = i by omega, pk_uLs]
end
section
set_option maxHeartbeats 4000000 in
set_option maxRecDepth 100000 in
theorem lp_Lv_made {p : Program} (l : Launch) {e : Env} {s : State} {m : MethodId} {args : Array Value} {below : List Frame} {meth : Method} {c : Code} {Q : State → Prop} {A : Nat → Prop} {H0 : Heap} (C0 : cx p s m args meth c b_Lv_made 7 (some .int) R_Lv) (dC : Nat → ClassId) (dI : Nat → Nat → Nat) (cI cL cZ : ClassId) (ad : Nat → Nat) (K F S D U V : Nat → Int32) (PT0 : Nat → Int64) (n : Nat) (hn : n ≤ 120) (nd : Nat → Nat × Nat × Nat) (hok : LvOk nd n K F S D U PT0) (q : Nat × Nat × Nat) (hq : rowOk q n) (hn1 : n < 120) (hK : va_K (dC, dI) classes (tyI cI cL cZ) s) (hA : ∀ q : Nat, H0.size ≤ q → A q) 
    (KB : ∀ (PT : Nat → Int64) (H : Heap) (locs : List Loc) (ls : Array Slot), ((∀ g, g < 32 → PT (n * 32 + g) = en (pb g (ext nd n q) n)) ∧ ∀ z, z < n * 32 → PT z = PT0 z) → va_P (dC, dI) classes [((ad 1), .inr (1, [.ref (ad 2), .ref (ad 3), .ref (ad 4), .ref (ad 5), .ref (ad 6), .ref (ad 7), .ref (ad 8), .int (nI n)])), ((ad 2), .inl (cI, 120, .inl (upd K n (nI q.1)))), ((ad 3), .inl (cI, 120, .inl (upd F n (fF q)))), ((ad 4), .inl (cI, 120, .inl (upd S n (fS q)))), ((ad 5), .inl (cI, 120, .inl (upd D n (nI (dp (ext nd n q) n))))), ((ad 6), .inl (cI, 120, .inl (upd U n (nI (us (ext nd n q) n))))), ((ad 7), .inl (cI, 120, .inl V)), ((ad 8), .inl (cL, 3840, .inr (.inl PT)))] H → va_D A [((ad 1), .inr (1, [.ref (ad 2), .ref (ad 3), .ref (ad 4), .ref (ad 5), .ref (ad 6), .ref (ad 7), .ref (ad 8), .int (nI n)])), ((ad 2), .inl (cI, 120, .inl (upd K n (nI q.1)))), ((ad 3), .inl (cI, 120, .inl (upd F n (fF q)))), ((ad 4), .inl (cI, 120, .inl (upd S n (fS q)))), ((ad 5), .inl (cI, 120, .inl (upd D n (nI (dp (ext nd n q) n))))), ((ad 6), .inl (cI, 120, .inl (upd U n (nI (us (ext nd n q) n))))), ((ad 7), .inl (cI, 120, .inl V)), ((ad 8), .inl (cL, 3840, .inr (.inl PT)))] → va_S A H0 H locs → lv_has ls 7 [(0, .ref (ad 1)), (5, .int (nI n))] → W p l e (rmH 7 1 6) s m args below meth c H locs 0 0 Q (F0 m 117 ls []))
    : ∀ (q9 : Nat) (i : Nat) (PT : Nat → Int64), i + q9 = 32 ∧ ((∀ g, g < i → PT (n * 32 + g) = en (pb g (ext nd n q) n)) ∧ ∀ z, z < n * 32 → PT z = PT0 z) → ∀ (H : Heap) (locs : List Loc) (ls : Array Slot), va_P (dC, dI) classes [((ad 1), .inr (1, [.ref (ad 2), .ref (ad 3), .ref (ad 4), .ref (ad 5), .ref (ad 6), .ref (ad 7), .ref (ad 8), .int (nI n)])), ((ad 2), .inl (cI, 120, .inl (upd K n (nI q.1)))), ((ad 3), .inl (cI, 120, .inl (upd F n (fF q)))), ((ad 4), .inl (cI, 120, .inl (upd S n (fS q)))), ((ad 5), .inl (cI, 120, .inl (upd D n (nI (dp (ext nd n q) n))))), ((ad 6), .inl (cI, 120, .inl (upd U n (nI (us (ext nd n q) n))))), ((ad 7), .inl (cI, 120, .inl V)), ((ad 8), .inl (cL, 3840, .inr (.inl PT)))] H → va_D A [((ad 1), .inr (1, [.ref (ad 2), .ref (ad 3), .ref (ad 4), .ref (ad 5), .ref (ad 6), .ref (ad 7), .ref (ad 8), .int (nI n)])), ((ad 2), .inl (cI, 120, .inl (upd K n (nI q.1)))), ((ad 3), .inl (cI, 120, .inl (upd F n (fF q)))), ((ad 4), .inl (cI, 120, .inl (upd S n (fS q)))), ((ad 5), .inl (cI, 120, .inl (upd D n (nI (dp (ext nd n q) n))))), ((ad 6), .inl (cI, 120, .inl (upd U n (nI (us (ext nd n q) n))))), ((ad 7), .inl (cI, 120, .inl V)), ((ad 8), .inl (cL, 3840, .inr (.inl PT)))] → va_S A H0 H locs → lv_has ls 7 [(0, .ref (ad 1)), (5, .int (nI n)), (6, .int (nI i))] → W p l e (rmH 7 1 6) s m args below meth c H locs 0 0 Q (F0 m 83 ls []) := by
  obtain ⟨hx, hb, hr, hml, hown, htb, hlocks⟩ := id C0
  intro q9
  induction q9 with
  | zero =>
    intro i PT hiV H locs ls hP hD hS hl
    obtain ⟨hi, hI1, hI2⟩ := hiV
    refine lv_iload hx hb d_Lv_made_83 (lv_at hl 2 rfl) ?_
    refine lv_bipush (v := 32) hx hb d_Lv_made_85 (by decide) ?_
    refine lv_icmp_ge (tgt := 117) hx hb d_Lv_made_87 (by decide) (fun c_87 => ?_) (fun c_87 => ?_)
    · exact KB PT H locs ls ⟨fun g hg => hI1 g (by omega), hI2⟩ hP hD hS (lv_sub hl [0, 1] rfl)
    · exact absurd ((nI_leI (a := 32) (b := i) (by decide) (by omega)).mpr (by omega)) c_87
  | succ q9 ih =>
    intro i PT hiV H locs ls hP hD hS hl
    obtain ⟨hi, hI1, hI2⟩ := hiV
    refine lv_iload hx hb d_Lv_made_83 (lv_at hl 2 rfl) ?_
    refine lv_bipush (v := 32) hx hb d_Lv_made_85 (by decide) ?_
    refine lv_icmp_ge (tgt := 117) hx hb d_Lv_made_87 (by decide) (fun c_87 => ?_) (fun c_87 => ?_)
    · exact absurd ((nI_leI (a := 32) (b := i) (by decide) (by omega)).mp c_87) (by omega)
    · refine lv_aload_n hx hb d_Lv_made_90 rfl (lv_at hl 0 rfl) ?_
      refine va_get (D := (dC, dI)) (ci := 1) (v := .ref (ad 8)) (C := R_Lv) (T := F_Lv) (N := 8) hx hb htb ul_Lv hown hK hP 0 rfl rfl 6 (by decide) (htb _ mw_35) (fun _ h9 => h9) rfl d_Lv_made_91 ?_
      refine lv_iload hx hb d_Lv_made_94 (lv_at hl 1 rfl) ?_
      refine lv_bipush (v := 32) hx hb d_Lv_made_96 (by decide) ?_
      refine lv_imul hx hb d_Lv_made_98 ?_
      refine lv_iload hx hb d_Lv_made_99 (lv_at hl 2 rfl) ?_
      refine lv_iadd hx hb d_Lv_made_101 ?_
      rw [show ((nI n * 32 + nI i : Int32)) = nI (n * 32 + i) from by rw [show (32 : Int32) = nI 32 from rfl, pk_mul, nI_add]]
      refine lv_aload_n hx hb d_Lv_made_102 rfl (lv_at hl 0 rfl) ?_
      refine lv_iload hx hb d_Lv_made_103 (lv_at hl 1 rfl) ?_
      refine lv_iload hx hb d_Lv_made_105 (lv_at hl 2 rfl) ?_
      refine ry_callV (n := 2) (As := [.int (nI n), .int (nI i)]) (rest := [.int (nI (n * 32 + i)), .ref (ad 8)]) ⟨hx, hb, hml, hown, htb⟩ (c_Lv_partsOf l dC dI cI cL cZ ad (upd K n (nI q.1)) (upd F n (fF q)) (upd S n (fS q)) (upd D n (nI (dp (ext nd n q) n))) (upd U n (nI (us (ext nd n q) n))) V PT n hn n hn1 q.1 q.2.1 q.2.2 hq.1 pk_us (fun h => by rw [pk_us, fF_n h]) (fun h => by rw [pk_us, fS_n h]) hq.2.1 (fun h => by have := hq.2.2.1 h; omega) (fun h => by have := hq.2.2.2.1 h; omega) i (by omega) (if 2 ≤ q.1 then pb i nd q.2.1 else sg 5) (if 3 ≤ q.1 then pb i nd q.2.2 else sg 5) (if_pb _ hok.1 i hq.2.2.1).1 (if_pb _ hok.1 i hq.2.2.2.1).1 (if_pb _ hok.1 i hq.2.2.1).2 (fun h => by rw [if_pos h, hI2 _ (by have := hq.2.2.1 h; omega)]; exact hok.2.2.2.2 _ (hq.2.2.1 h) i (by omega)) (fun h => by rw [if_pos h, hI2 _ (by have := hq.2.2.2.1 h; omega)]; exact hok.2.2.2.2 _ (hq.2.2.2.1 h) i (by omega))) (gV mw_335 mw_337 mp_12 mw_2 mc_Lv_partsOf) rfl rfl (by decide +kernel) ⟨Nat.le_of_ble_eq_true rfl, Nat.le_of_ble_eq_true rfl⟩ hP hK (ci := 1) (q0 := 0) rfl rfl rfl rfl hl.1 rfl (Nat.le_of_ble_eq_true rfl) d_Lv_made_107 ⟨Nat.zero_le _, Nat.zero_le _⟩ (fun r_1 hr_1 => ?_)
      refine W.eq (g2 := F0 m 110 ls [.long r_1, .int (nI (n * 32 + i)), .ref (ad 8)]) rfl ?_
      rw [← ext_pb i hq] at hr_1
      subst hr_1
      refine ry_last (D := (dC, dI)) (j := n * 32 + i) hx hb hK hP hD hS 7 1 rfl rfl (by omega) (by decide) d_Lv_made_110 (fun H locs hP hD hS => ?_)
      have hP : va_P (dC, dI) classes [((ad 1), .inr (1, [.ref (ad 2), .ref (ad 3), .ref (ad 4), .ref (ad 5), .ref (ad 6), .ref (ad 7), .ref (ad 8), .int (nI n)])), ((ad 2), .inl (cI, 120, .inl (upd K n (nI q.1)))), ((ad 3), .inl (cI, 120, .inl (upd F n (fF q)))), ((ad 4), .inl (cI, 120, .inl (upd S n (fS q)))), ((ad 5), .inl (cI, 120, .inl (upd D n (nI (dp (ext nd n q) n))))), ((ad 6), .inl (cI, 120, .inl (upd U n (nI (us (ext nd n q) n))))), ((ad 7), .inl (cI, 120, .inl V)), ((ad 8), .inl (cL, 3840, .inr (.inl (vp_updL PT (n * 32 + i) ((en (pb i (ext nd n q) n)))))))] H := hP
      have hD : va_D A [((ad 1), .inr (1, [.ref (ad 2), .ref (ad 3), .ref (ad 4), .ref (ad 5), .ref (ad 6), .ref (ad 7), .ref (ad 8), .int (nI n)])), ((ad 2), .inl (cI, 120, .inl (upd K n (nI q.1)))), ((ad 3), .inl (cI, 120, .inl (upd F n (fF q)))), ((ad 4), .inl (cI, 120, .inl (upd S n (fS q)))), ((ad 5), .inl (cI, 120, .inl (upd D n (nI (dp (ext nd n q) n))))), ((ad 6), .inl (cI, 120, .inl (upd U n (nI (us (ext nd n q) n))))), ((ad 7), .inl (cI, 120, .inl V)), ((ad 8), .inl (cL, 3840, .inr (.inl (vp_updL PT (n * 32 + i) ((en (pb i (ext nd n q) n)))))))] := hD
      refine lv_iinc (v := (nI (i + 1))) (lv' := [(6, .int (nI (i + 1))), (0, .ref (ad 1)), (5, .int (nI n))]) hx hb d_Lv_made_111 hl (k := 2) rfl (nI_1 _) (by decide) rfl (fun ls hl => ?_)
      refine lv_goto (tgt := 83) hx hb d_Lv_made_114 (by decide) ?_
      exact ih (i + 1) (vp_updL PT (n * 32 + i) (en (pb i (ext nd n q) n))) ⟨by omega, pt_up (f := fun g => en (pb g (ext nd n q) n)) hI1, fun z hz => by rw [pk_uLn (by omega)]; exact hI2 z hz⟩ H locs ls hP hD hS (lv_sub hl [1, 2, 0] rfl)

set_option maxHeartbeats 4000000 in
set_option maxRecDepth 100000 in
theorem c_Lv_made (l : Launch) (htr : ∀ e, l.admits e → e.platform.stackTraces = false) (dC : Nat → ClassId) (dI : Nat → Nat → Nat) (cI cL cZ : ClassId) (ad : Nat → Nat) (K F S D U V : Nat → Int32) (PT : Nat → Int64) (n : Nat) (hn : n ≤ 120) (nd : Nat → Nat × Nat × Nat) (hok : LvOk nd n K F S D U PT) (q : Nat × Nat × Nat) (hq : rowOk q n) (sz : Nat) : wx_Met l y_Lv_made (cw_Lv_made :: tb) (rmH 7 1 6) (va_Pc [.ref (ad 1), .int (nI q.1), .int (fF q), .int (fS q)] (wz_P (dC, dI) classes (wLv cI cL ad K F S D U V PT n) (tyI cI cL cZ) sz)) (wx_Q ry_i (fun r (u : LvS) => ∃ nd', mkd nd n q r nd' u.2.2.2.2.2.2 ∧ LvU nd' u) (fun X (u : LvS) => LvU nd u ∧ u.2.2.2.2.2.2 = n ∧ mkx nd n q X) (wy_B (dC, dI) classes (tyI cI cL cZ) (va_A (wLv cI cL ad K F S D U V PT n) sz) (fun u : LvS => wLvS cI cL ad V u)) (va_A (wLv cI cL ad K F S D U V PT n) sz)) (va_A (wLv cI cL ad K F S D U V PT n) sz) := by
  refine wx_ofW (cc := b_Lv_made) (maxL := 7) (ret := (some .int)) (by decide +kernel) rfl ?_
  intro p e s m args below meth c s₁ B hml0 ht0 hv
  have C0 := cx_of B hml0 rfl
  obtain ⟨hx, hb, hr, hml, hown, htb, hlocks⟩ := id C0
  obtain ⟨rfl, ⟨hsz, hP, hK, hD0⟩, hth, hst⟩ := hv
  subst hsz
  have hD := hD0.self (sz := s.heap.size)
  generalize hAe : va_A (wLv cI cL ad K F S D U V PT n) s.heap.size = A at hD hth ⊢
  have hA : ∀ q : Nat, s.heap.size ≤ q → A q := fun q h => by rw [← hAe]; exact Or.inr h
  have hS : va_S A s.heap s.heap [] := va_S.rf
  have hl := lv_entry ([.ref (ad 1), .int (nI q.1), .int (fF q), .int (fS q)]) (n := 7) (Nat.le_of_ble_eq_true rfl)
  rw [lg_entry_eq]
  generalize (lg_sl ([.ref (ad 1), .int (nI q.1), .int (fF q), .int (fS q)]) ++ List.replicate (7 - (lg_sl ([.ref (ad 1), .int (nI q.1), .int (fF q), .int (fS q)])).length) Slot.unset).toArray = ls at hl ⊢
  have hl : lv_has ls 7 [(0, .ref (ad 1)), (1, .int (nI q.1)), (2, .int (fF q)), (3, .int (fS q))] := hl
  have hP : va_P (dC, dI) classes [((ad 1), .inr (1, [.ref (ad 2), .ref (ad 3), .ref (ad 4), .ref (ad 5), .ref (ad 6), .ref (ad 7), .ref (ad 8), .int (nI n)])), ((ad 2), .inl (cI, 120, .inl K)), ((ad 3), .inl (cI, 120, .inl F)), ((ad 4), .inl (cI, 120, .inl S)), ((ad 5), .inl (cI, 120, .inl D)), ((ad 6), .inl (cI, 120, .inl U)), ((ad 7), .inl (cI, 120, .inl V)), ((ad 8), .inl (cL, 3840, .inr (.inl PT)))] s.heap := hP
  have hD : va_D A [((ad 1), .inr (1, [.ref (ad 2), .ref (ad 3), .ref (ad 4), .ref (ad 5), .ref (ad 6), .ref (ad 7), .ref (ad 8), .int (nI n)])), ((ad 2), .inl (cI, 120, .inl K)), ((ad 3), .inl (cI, 120, .inl F)), ((ad 4), .inl (cI, 120, .inl S)), ((ad 5), .inl (cI, 120, .inl D)), ((ad 6), .inl (cI, 120, .inl U)), ((ad 7), .inl (cI, 120, .inl V)), ((ad 8), .inl (cL, 3840, .inr (.inl PT)))] := hD
  refine lv_aload_n hx hb d_Lv_made_0 rfl (lv_at hl 0 rfl) ?_
  refine lv_iload_n hx hb d_Lv_made_1 rfl (lv_at hl 1 rfl) ?_
  refine lv_iload_n hx hb d_Lv_made_2 rfl (lv_at hl 2 rfl) ?_
  refine lv_iload_n hx hb d_Lv_made_3 rfl (lv_at hl 3 rfl) ?_
  refine ry_callV (n := 3) (As := [.int (nI q.1), .int (fF q), .int (fS q)]) (rest := []) ⟨hx, hb, hml, hown, htb⟩ (c_Lv_find l dC dI cI cL cZ ad K F S D U V PT n hn (nI q.1) (fF q) (fS q)) (gV mw_235 mw_237 mp_7 mw_2 mc_Lv_find) rfl rfl (by decide +kernel) ⟨Nat.le_of_ble_eq_true rfl, Nat.le_of_ble_eq_true rfl⟩ hP hK (ci := 1) (q0 := 0) rfl rfl rfl rfl hl.1 rfl (Nat.le_of_ble_eq_true rfl) d_Lv_made_4 ⟨Nat.zero_le _, Nat.zero_le _⟩ (fun r_1 hr_1 => ?_)
  subst hr_1
  refine W.eq (g2 := F0 m 7 ls [.int (fnd K F S n q)]) rfl ?_
  refine lv_istore (lv' := [(4, .int (fnd K F S n q)), (0, .ref (ad 1)), (1, .int (nI q.1)), (2, .int (fF q)), (3, .int (fS q))]) hx hb d_Lv_made_7 hl (by decide) rfl (fun ls hl => ?_)
  refine lv_iload hx hb d_Lv_made_9 (lv_at hl 0 rfl) ?_
  refine lv_iconst (v := (-1)) hx hb d_Lv_made_11 (by decide) ?_
  refine lv_icmp_eq (tgt := 18) hx hb d_Lv_made_12 (by decide) (fun c_12 => ?_) (fun c_12 => ?_)
  · refine lv_aload_n hx hb d_Lv_made_18 rfl (lv_at hl 1 rfl) ?_
    refine lv_iload_n hx hb d_Lv_made_19 rfl (lv_at hl 2 rfl) ?_
    refine lv_iload_n hx hb d_Lv_made_20 rfl (lv_at hl 3 rfl) ?_
    refine wz_callV (n := 2) (wr := []) (As := [.int (nI q.1), .int (fF q)]) (rest := []) ⟨hx, hb, hml, hown, htb⟩ (c_Lv_checkNew l htr dC dI cI cL cZ ad K F S D U V PT n hn q.1 hq.1 (fF q) q.2.1 (if q.1 = 2 then dp nd q.2.1 else 0) (fun h => fF_n (by omega)) (fun h => by have := hq.2.2.1 (by omega); omega) (fun h => by rw [if_pos h]; exact hok.2.2.1 _ (hq.2.2.1 (by omega))) (if_lt _ (fun h => by have := hok.1.2.2.1 _ (hq.2.2.1 (by omega)); omega) (by decide)) s.heap.size) (gV mw_239 mw_241 mp_8 mw_2 mc_Lv_checkNew) rfl rfl (by decide +kernel) ⟨Nat.le_of_ble_eq_true rfl, Nat.le_of_ble_eq_true rfl⟩ hth hst hP hD hS hA hK [0, 1, 2, 3, 4, 5, 6, 7] [] rfl rfl (by decide) (by decide) (hP.sub [0, 1, 2, 3, 4, 5, 6, 7] rfl) ((hD.sub [0, 1, 2, 3, 4, 5, 6, 7] (by decide) rfl).weaken (fun _ _ _ _ => trivial)) (ci := 1) (q0 := 0) rfl rfl rfl rfl hl.1 rfl (Nat.le_of_ble_eq_true rfl) d_Lv_made_21 ⟨Nat.le_of_ble_eq_true rfl, Nat.le_of_ble_eq_true rfl⟩ (fun r u H locs hpost hP hD hS => ?_) (fun x X u H locs hpt hex hP hD hS => ?_)
    · have hnew : ∀ j, j < n → nd j ≠ q := ((fnd_cases hok.1 hok.2.1 hq).resolve_right (fun ⟨j, h1, _, h3⟩ => nI_m1 (by omega) (h3.symm.trans c_12))).2
      have hdd : ¬ (q.1 = 2 ∧ 60 ≤ dp nd q.2.1) := fun z => hpost.1 ⟨z.1, by rw [if_pos z.1]; exact z.2⟩
      have hn1 : n < 120 := hpost.2
      have hP : va_P (dC, dI) classes [((ad 1), .inr (1, [.ref (ad 2), .ref (ad 3), .ref (ad 4), .ref (ad 5), .ref (ad 6), .ref (ad 7), .ref (ad 8), .int (nI n)])), ((ad 2), .inl (cI, 120, .inl K)), ((ad 3), .inl (cI, 120, .inl F)), ((ad 4), .inl (cI, 120, .inl S)), ((ad 5), .inl (cI, 120, .inl D)), ((ad 6), .inl (cI, 120, .inl U)), ((ad 7), .inl (cI, 120, .inl V)), ((ad 8), .inl (cL, 3840, .inr (.inl PT)))] H := hP
      have hD : va_D A [((ad 1), .inr (1, [.ref (ad 2), .ref (ad 3), .ref (ad 4), .ref (ad 5), .ref (ad 6), .ref (ad 7), .ref (ad 8), .int (nI n)])), ((ad 2), .inl (cI, 120, .inl K)), ((ad 3), .inl (cI, 120, .inl F)), ((ad 4), .inl (cI, 120, .inl S)), ((ad 5), .inl (cI, 120, .inl D)), ((ad 6), .inl (cI, 120, .inl U)), ((ad 7), .inl (cI, 120, .inl V)), ((ad 8), .inl (cL, 3840, .inr (.inl PT)))] := hD
      refine W.eq (g2 := F0 m 24 ls []) rfl ?_
      refine lv_aload_n hx hb d_Lv_made_24 rfl (lv_at hl 1 rfl) ?_
      refine va_get (D := (dC, dI)) (ci := 1) (v := .int (nI n)) (C := R_Lv) (T := F_Lv) (N := 8) hx hb htb ul_Lv hown hK hP 0 rfl rfl 7 (by decide) (htb _ mw_36) (fun _ h9 => h9) rfl d_Lv_made_25 ?_
      refine lv_istore (lv' := [(5, .int (nI n)), (4, .int (fnd K F S n q)), (0, .ref (ad 1)), (1, .int (nI q.1)), (2, .int (fF q)), (3, .int (fS q))]) hx hb d_Lv_made_28 hl (by decide) rfl (fun ls hl => ?_)
      refine lv_aload_n hx hb d_Lv_made_30 rfl (lv_at hl 2 rfl) ?_
      refine va_get (D := (dC, dI)) (ci := 1) (v := .ref (ad 2)) (C := R_Lv) (T := F_Lv) (N := 8) hx hb htb ul_Lv hown hK hP 0 rfl rfl 0 (by decide) (htb _ mw_29) (fun _ h9 => h9) rfl d_Lv_made_31 ?_
      refine lv_iload hx hb d_Lv_made_34 (lv_at hl 0 rfl) ?_
      refine lv_iload_n hx hb d_Lv_made_36 rfl (lv_at hl 3 rfl) ?_
      refine ry_iast (D := (dC, dI)) (j := n) hx hb hK hP hD hS 1 0 rfl rfl (by omega) (by decide) d_Lv_made_37 (fun H locs hP hD hS => ?_)
      have hP : va_P (dC, dI) classes [((ad 1), .inr (1, [.ref (ad 2), .ref (ad 3), .ref (ad 4), .ref (ad 5), .ref (ad 6), .ref (ad 7), .ref (ad 8), .int (nI n)])), ((ad 2), .inl (cI, 120, .inl (upd K n (nI q.1)))), ((ad 3), .inl (cI, 120, .inl F)), ((ad 4), .inl (cI, 120, .inl S)), ((ad 5), .inl (cI, 120, .inl D)), ((ad 6), .inl (cI, 120, .inl U)), ((ad 7), .inl (cI, 120, .inl V)), ((ad 8), .inl (cL, 3840, .inr (.inl PT)))] H := hP
      have hD : va_D A [((ad 1), .inr (1, [.ref (ad 2), .ref (ad 3), .ref (ad 4), .ref (ad 5), .ref (ad 6), .ref (ad 7), .ref (ad 8), .int (nI n)])), ((ad 2), .inl (cI, 120, .inl (upd K n (nI q.1)))), ((ad 3), .inl (cI, 120, .inl F)), ((ad 4), .inl (cI, 120, .inl S)), ((ad 5), .inl (cI, 120, .inl D)), ((ad 6), .inl (cI, 120, .inl U)), ((ad 7), .inl (cI, 120, .inl V)), ((ad 8), .inl (cL, 3840, .inr (.inl PT)))] := hD
      refine lv_aload_n hx hb d_Lv_made_38 rfl (lv_at hl 2 rfl) ?_
      refine va_get (D := (dC, dI)) (ci := 1) (v := .ref (ad 3)) (C := R_Lv) (T := F_Lv) (N := 8) hx hb htb ul_Lv hown hK hP 0 rfl rfl 1 (by decide) (htb _ mw_30) (fun _ h9 => h9) rfl d_Lv_made_39 ?_
      refine lv_iload hx hb d_Lv_made_42 (lv_at hl 0 rfl) ?_
      refine lv_iload_n hx hb d_Lv_made_44 rfl (lv_at hl 4 rfl) ?_
      refine ry_iast (D := (dC, dI)) (j := n) hx hb hK hP hD hS 2 0 rfl rfl (by omega) (by decide) d_Lv_made_45 (fun H locs hP hD hS => ?_)
      have hP : va_P (dC, dI) classes [((ad 1), .inr (1, [.ref (ad 2), .ref (ad 3), .ref (ad 4), .ref (ad 5), .ref (ad 6), .ref (ad 7), .ref (ad 8), .int (nI n)])), ((ad 2), .inl (cI, 120, .inl (upd K n (nI q.1)))), ((ad 3), .inl (cI, 120, .inl (upd F n (fF q)))), ((ad 4), .inl (cI, 120, .inl S)), ((ad 5), .inl (cI, 120, .inl D)), ((ad 6), .inl (cI, 120, .inl U)), ((ad 7), .inl (cI, 120, .inl V)), ((ad 8), .inl (cL, 3840, .inr (.inl PT)))] H := hP
      have hD : va_D A [((ad 1), .inr (1, [.ref (ad 2), .ref (ad 3), .ref (ad 4), .ref (ad 5), .ref (ad 6), .ref (ad 7), .ref (ad 8), .int (nI n)])), ((ad 2), .inl (cI, 120, .inl (upd K n (nI q.1)))), ((ad 3), .inl (cI, 120, .inl (upd F n (fF q)))), ((ad 4), .inl (cI, 120, .inl S)), ((ad 5), .inl (cI, 120, .inl D)), ((ad 6), .inl (cI, 120, .inl U)), ((ad 7), .inl (cI, 120, .inl V)), ((ad 8), .inl (cL, 3840, .inr (.inl PT)))] := hD
      refine lv_aload_n hx hb d_Lv_made_46 rfl (lv_at hl 2 rfl) ?_
      refine va_get (D := (dC, dI)) (ci := 1) (v := .ref (ad 4)) (C := R_Lv) (T := F_Lv) (N := 8) hx hb htb ul_Lv hown hK hP 0 rfl rfl 2 (by decide) (htb _ mw_31) (fun _ h9 => h9) rfl d_Lv_made_47 ?_
      refine lv_iload hx hb d_Lv_made_50 (lv_at hl 0 rfl) ?_
      refine lv_iload_n hx hb d_Lv_made_52 rfl (lv_at hl 5 rfl) ?_
      refine ry_iast (D := (dC, dI)) (j := n) hx hb hK hP hD hS 3 0 rfl rfl (by omega) (by decide) d_Lv_made_53 (fun H locs hP hD hS => ?_)
      have hP : va_P (dC, dI) classes [((ad 1), .inr (1, [.ref (ad 2), .ref (ad 3), .ref (ad 4), .ref (ad 5), .ref (ad 6), .ref (ad 7), .ref (ad 8), .int (nI n)])), ((ad 2), .inl (cI, 120, .inl (upd K n (nI q.1)))), ((ad 3), .inl (cI, 120, .inl (upd F n (fF q)))), ((ad 4), .inl (cI, 120, .inl (upd S n (fS q)))), ((ad 5), .inl (cI, 120, .inl D)), ((ad 6), .inl (cI, 120, .inl U)), ((ad 7), .inl (cI, 120, .inl V)), ((ad 8), .inl (cL, 3840, .inr (.inl PT)))] H := hP
      have hD : va_D A [((ad 1), .inr (1, [.ref (ad 2), .ref (ad 3), .ref (ad 4), .ref (ad 5), .ref (ad 6), .ref (ad 7), .ref (ad 8), .int (nI n)])), ((ad 2), .inl (cI, 120, .inl (upd K n (nI q.1)))), ((ad 3), .inl (cI, 120, .inl (upd F n (fF q)))), ((ad 4), .inl (cI, 120, .inl (upd S n (fS q)))), ((ad 5), .inl (cI, 120, .inl D)), ((ad 6), .inl (cI, 120, .inl U)), ((ad 7), .inl (cI, 120, .inl V)), ((ad 8), .inl (cL, 3840, .inr (.inl PT)))] := hD
      refine lv_aload_n hx hb d_Lv_made_54 rfl (lv_at hl 2 rfl) ?_
      refine va_get (D := (dC, dI)) (ci := 1) (v := .ref (ad 5)) (C := R_Lv) (T := F_Lv) (N := 8) hx hb htb ul_Lv hown hK hP 0 rfl rfl 3 (by decide) (htb _ mw_32) (fun _ h9 => h9) rfl d_Lv_made_55 ?_
      refine lv_iload hx hb d_Lv_made_58 (lv_at hl 0 rfl) ?_
      refine lv_aload_n hx hb d_Lv_made_60 rfl (lv_at hl 2 rfl) ?_
      refine lv_iload hx hb d_Lv_made_61 (lv_at hl 0 rfl) ?_
      refine ry_callV (n := 1) (As := [.int (nI n)]) (rest := [.int (nI n), .ref (ad 5)]) ⟨hx, hb, hml, hown, htb⟩ (c_Lv_nextsOf l dC dI cI cL cZ ad (upd K n (nI q.1)) (upd F n (fF q)) (upd S n (fS q)) D U V PT n hn n hn1 q.1 q.2.1 q.2.2 hq.1 pk_us (fun h => by rw [pk_us, fF_n h]) (fun h => by rw [pk_us, fS_n h]) hq.2.1 (fun h => by have := hq.2.2.1 h; omega) (fun h => by have := hq.2.2.2.1 h; omega) (if 2 ≤ q.1 then dp nd q.2.1 else 0) (if 3 ≤ q.1 then dp nd q.2.2 else 0) (fun h => by rw [if_pos h]; exact hok.2.2.1 _ (hq.2.2.1 h)) (fun h => by rw [if_pos h]; exact hok.2.2.1 _ (hq.2.2.2.1 h)) (if_lt _ (fun h => by have := hok.1.2.2.1 _ (hq.2.2.1 h); omega) (by decide)) (if_lt _ (fun h => by have := hok.1.2.2.1 _ (hq.2.2.2.1 h); omega) (by decide))) (gV mw_327 mw_329 mp_10 mw_2 mc_Lv_nextsOf) rfl rfl (by decide +kernel) ⟨Nat.le_of_ble_eq_true rfl, Nat.le_of_ble_eq_true rfl⟩ hP hK (ci := 1) (q0 := 0) rfl rfl rfl rfl hl.1 rfl (Nat.le_of_ble_eq_true rfl) d_Lv_made_63 ⟨Nat.zero_le _, Nat.zero_le _⟩ (fun r_2 hr_2 => ?_)
      refine W.eq (g2 := F0 m 66 ls [.int r_2, .int (nI n), .ref (ad 5)]) rfl ?_
      rw [← ext_dp (nd := nd) hq] at hr_2
      subst hr_2
      refine ry_iast (D := (dC, dI)) (j := n) hx hb hK hP hD hS 4 0 rfl rfl (by omega) (by decide) d_Lv_made_66 (fun H locs hP hD hS => ?_)
      have hP : va_P (dC, dI) classes [((ad 1), .inr (1, [.ref (ad 2), .ref (ad 3), .ref (ad 4), .ref (ad 5), .ref (ad 6), .ref (ad 7), .ref (ad 8), .int (nI n)])), ((ad 2), .inl (cI, 120, .inl (upd K n (nI q.1)))), ((ad 3), .inl (cI, 120, .inl (upd F n (fF q)))), ((ad 4), .inl (cI, 120, .inl (upd S n (fS q)))), ((ad 5), .inl (cI, 120, .inl (upd D n ((nI (dp (ext nd n q) n)))))), ((ad 6), .inl (cI, 120, .inl U)), ((ad 7), .inl (cI, 120, .inl V)), ((ad 8), .inl (cL, 3840, .inr (.inl PT)))] H := hP
      have hD : va_D A [((ad 1), .inr (1, [.ref (ad 2), .ref (ad 3), .ref (ad 4), .ref (ad 5), .ref (ad 6), .ref (ad 7), .ref (ad 8), .int (nI n)])), ((ad 2), .inl (cI, 120, .inl (upd K n (nI q.1)))), ((ad 3), .inl (cI, 120, .inl (upd F n (fF q)))), ((ad 4), .inl (cI, 120, .inl (upd S n (fS q)))), ((ad 5), .inl (cI, 120, .inl (upd D n ((nI (dp (ext nd n q) n)))))), ((ad 6), .inl (cI, 120, .inl U)), ((ad 7), .inl (cI, 120, .inl V)), ((ad 8), .inl (cL, 3840, .inr (.inl PT)))] := hD
      refine lv_aload_n hx hb d_Lv_made_67 rfl (lv_at hl 2 rfl) ?_
      refine va_get (D := (dC, dI)) (ci := 1) (v := .ref (ad 6)) (C := R_Lv) (T := F_Lv) (N := 8) hx hb htb ul_Lv hown hK hP 0 rfl rfl 4 (by decide) (htb _ mw_33) (fun _ h9 => h9) rfl d_Lv_made_68 ?_
      refine lv_iload hx hb d_Lv_made_71 (lv_at hl 0 rfl) ?_
      refine lv_aload_n hx hb d_Lv_made_73 rfl (lv_at hl 2 rfl) ?_
      refine lv_iload hx hb d_Lv_made_74 (lv_at hl 0 rfl) ?_
      refine ry_callV (n := 1) (As := [.int (nI n)]) (rest := [.int (nI n), .ref (ad 6)]) ⟨hx, hb, hml, hown, htb⟩ (c_Lv_usesOf l dC dI cI cL cZ ad (upd K n (nI q.1)) (upd F n (fF q)) (upd S n (fS q)) (upd D n (nI (dp (ext nd n q) n))) U V PT n hn n hn1 q.1 q.2.1 q.2.2 hq.1 pk_us (fun h => by rw [pk_us, fF_n h]) (fun h => by rw [pk_us, fS_n h]) hq.2.1 (fun h => by have := hq.2.2.1 h; omega) (fun h => by have := hq.2.2.2.1 h; omega) (if 2 ≤ q.1 then us nd q.2.1 else 0) (if 3 ≤ q.1 then us nd q.2.2 else 0) (fun h => by rw [if_pos h]; exact hok.2.2.2.1 _ (hq.2.2.1 h)) (fun h => by rw [if_pos h]; exact hok.2.2.2.1 _ (hq.2.2.2.1 h)) (if_lt _ (fun h => us_lt hok.1.2.1 _ _ (Nat.lt_succ_self _) (hq.2.2.1 h)) (by decide)) (if_lt _ (fun h => us_lt hok.1.2.1 _ _ (Nat.lt_succ_self _) (hq.2.2.2.1 h)) (by decide))) (gV mw_331 mw_333 mp_11 mw_2 mc_Lv_usesOf) rfl rfl (by decide +kernel) ⟨Nat.le_of_ble_eq_true rfl, Nat.le_of_ble_eq_true rfl⟩ hP hK (ci := 1) (q0 := 0) rfl rfl rfl rfl hl.1 rfl (Nat.le_of_ble_eq_true rfl) d_Lv_made_76 ⟨Nat.zero_le _, Nat.zero_le _⟩ (fun r_3 hr_3 => ?_)
      refine W.eq (g2 := F0 m 79 ls [.int r_3, .int (nI n), .ref (ad 6)]) rfl ?_
      rw [← ext_us (nd := nd) hq] at hr_3
      subst hr_3
      refine ry_iast (D := (dC, dI)) (j := n) hx hb hK hP hD hS 5 0 rfl rfl (by omega) (by decide) d_Lv_made_79 (fun H locs hP hD hS => ?_)
      have hP : va_P (dC, dI) classes [((ad 1), .inr (1, [.ref (ad 2), .ref (ad 3), .ref (ad 4), .ref (ad 5), .ref (ad 6), .ref (ad 7), .ref (ad 8), .int (nI n)])), ((ad 2), .inl (cI, 120, .inl (upd K n (nI q.1)))), ((ad 3), .inl (cI, 120, .inl (upd F n (fF q)))), ((ad 4), .inl (cI, 120, .inl (upd S n (fS q)))), ((ad 5), .inl (cI, 120, .inl (upd D n ((nI (dp (ext nd n q) n)))))), ((ad 6), .inl (cI, 120, .inl (upd U n ((nI (us (ext nd n q) n)))))), ((ad 7), .inl (cI, 120, .inl V)), ((ad 8), .inl (cL, 3840, .inr (.inl PT)))] H := hP
      have hD : va_D A [((ad 1), .inr (1, [.ref (ad 2), .ref (ad 3), .ref (ad 4), .ref (ad 5), .ref (ad 6), .ref (ad 7), .ref (ad 8), .int (nI n)])), ((ad 2), .inl (cI, 120, .inl (upd K n (nI q.1)))), ((ad 3), .inl (cI, 120, .inl (upd F n (fF q)))), ((ad 4), .inl (cI, 120, .inl (upd S n (fS q)))), ((ad 5), .inl (cI, 120, .inl (upd D n ((nI (dp (ext nd n q) n)))))), ((ad 6), .inl (cI, 120, .inl (upd U n ((nI (us (ext nd n q) n)))))), ((ad 7), .inl (cI, 120, .inl V)), ((ad 8), .inl (cL, 3840, .inr (.inl PT)))] := hD
      refine lv_iconst (v := 0) hx hb d_Lv_made_80 (by decide) ?_
      refine lv_istore (lv' := [(6, .int 0), (5, .int (nI n)), (4, .int (fnd K F S n q)), (0, .ref (ad 1)), (1, .int (nI q.1)), (2, .int (fF q)), (3, .int (fS q))]) hx hb d_Lv_made_81 hl (by decide) rfl (fun ls hl => ?_)
      refine lp_Lv_made l C0 dC dI cI cL cZ ad K F S D U V PT n hn nd hok q hq hn1 hK hA (fun PT9 H locs ls hI hP hD hS hl => ?_) 32 0 PT ⟨rfl, fun g hg => by omega, fun z hz => rfl⟩ H locs ls hP hD hS (lv_sub hl [3, 1, 0] rfl)
      refine lv_aload_n hx hb d_Lv_made_117 rfl (lv_at hl 0 rfl) ?_
      refine lv_dup hx hb d_Lv_made_118 rfl ?_
      refine va_get (D := (dC, dI)) (ci := 1) (v := .int (nI n)) (C := R_Lv) (T := F_Lv) (N := 8) hx hb htb ul_Lv hown hK hP 0 rfl rfl 7 (by decide) (htb _ mw_36) (fun _ h9 => h9) rfl d_Lv_made_119 ?_
      refine lv_iconst (v := 1) hx hb d_Lv_made_122 (by decide) ?_
      refine lv_iadd hx hb d_Lv_made_123 ?_
      rw [nI_1]
      refine va_put (D := (dC, dI)) (ci := 1) (v := .int (nI (n + 1))) (ty := .int) (C := R_Lv) (T := F_Lv) (N := 8) hx hb htb ul_Lv t_Lv t_Lv_ok n_Lv hown hK hP hD hS 0 rfl rfl 7 (by decide) (htb _ mw_36) (fun _ h9 => h9) rfl (by decide +kernel) rfl rfl (Nat.le_of_ble_eq_true rfl) d_Lv_made_124 (fun H locs hP hD hS => ?_)
      have hP : va_P (dC, dI) classes [((ad 1), .inr (1, [.ref (ad 2), .ref (ad 3), .ref (ad 4), .ref (ad 5), .ref (ad 6), .ref (ad 7), .ref (ad 8), .int (nI (n + 1))])), ((ad 2), .inl (cI, 120, .inl (upd K n (nI q.1)))), ((ad 3), .inl (cI, 120, .inl (upd F n (fF q)))), ((ad 4), .inl (cI, 120, .inl (upd S n (fS q)))), ((ad 5), .inl (cI, 120, .inl (upd D n (nI (dp (ext nd n q) n))))), ((ad 6), .inl (cI, 120, .inl (upd U n (nI (us (ext nd n q) n))))), ((ad 7), .inl (cI, 120, .inl V)), ((ad 8), .inl (cL, 3840, .inr (.inl PT9)))] H := hP
      have hD : va_D A [((ad 1), .inr (1, [.ref (ad 2), .ref (ad 3), .ref (ad 4), .ref (ad 5), .ref (ad 6), .ref (ad 7), .ref (ad 8), .int (nI (n + 1))])), ((ad 2), .inl (cI, 120, .inl (upd K n (nI q.1)))), ((ad 3), .inl (cI, 120, .inl (upd F n (fF q)))), ((ad 4), .inl (cI, 120, .inl (upd S n (fS q)))), ((ad 5), .inl (cI, 120, .inl (upd D n (nI (dp (ext nd n q) n))))), ((ad 6), .inl (cI, 120, .inl (upd U n (nI (us (ext nd n q) n))))), ((ad 7), .inl (cI, 120, .inl V)), ((ad 8), .inl (cL, 3840, .inr (.inl PT9)))] := hD
      refine lv_iload hx hb d_Lv_made_127 (lv_at hl 1 rfl) ?_
      exact wx_ret (W.iret (v := (nI n)) hx hb hr (fun t ht hW => ⟨Or.inl ⟨(nI n), ((upd K n (nI q.1)), (upd F n (fF q)), (upd S n (fS q)), (upd D n (nI (dp (ext nd n q) n))), (upd U n (nI (us (ext nd n q) n))), PT9, n + 1), rfl, ⟨ext nd n q, Or.inr ⟨hnew, hn1, hdd, rfl, rfl, rfl⟩, ext_ok hok hq hn1 hnew hdd hI.1 hI.2⟩, by rw [ht]; exact hP, va_K.moved hW.alike hK, hD⟩, hS.F ht⟩) hS.2.2 d_Lv_made_129)
    · have hnew : ∀ j, j < n → nd j ≠ q := ((fnd_cases hok.1 hok.2.1 hq).resolve_right (fun ⟨j, h1, _, h3⟩ => nI_m1 (by omega) (h3.symm.trans c_12))).2
      have hpx : mkx nd n q X := ⟨hnew, hpt.imp (fun z => ⟨z.1, z.2.1, by have := z.2.2; rw [if_pos z.2.1] at this; exact this⟩) (fun z => ⟨z.1, fun y => z.2.1 ⟨y.1, by rw [if_pos y.1]; exact y.2⟩, z.2.2⟩)⟩
      exact wx_out ht0 hlocks (fun t ht hW => ⟨Or.inr ⟨x, X, (K, F, S, D, U, PT, n), rfl, ⟨hok, rfl, hpx⟩, ⟨by rw [ht]; exact hP, va_K.moved hW.alike hK, hD⟩, by obtain ⟨cell, g1, g2, g3⟩ := hex; exact ⟨cell, by rw [ht]; exact g1, g2, by rw [hW.alike.findClass]; exact g3⟩⟩, hS.F ht⟩) hS.2.2
  · refine lv_iload hx hb d_Lv_made_15 (lv_at hl 0 rfl) ?_
    exact wx_ret (W.iret (v := (fnd K F S n q)) hx hb hr (fun t ht hW => ⟨Or.inl ⟨(fnd K F S n q), (K, F, S, D, U, PT, n), rfl, (by obtain ⟨j, h1, h2, h3⟩ := (fnd_cases hok.1 hok.2.1 hq).resolve_left (fun z => c_12 z.1); exact ⟨nd, Or.inl ⟨j, h1, h2, h3, rfl, rfl⟩, hok⟩), by rw [ht]; exact hP, va_K.moved hW.alike hK, hD⟩, hS.F ht⟩) hS.2.2 d_Lv_made_17)
end
section
/-! Needs: its cells; what its methods do, as functions of them. -/
abbrev wNd (cI cZ : ClassId) (ad : Nat → Nat) (LO ST HI KP NB : Nat → Int32) (unk cnt : Nat) (sv sk ck : Int32) : va_W := [(ad 12, .inr (3, [.ref (ad 13), .ref (ad 14), .ref (ad 15), .ref (ad 16), .ref (ad 17), .int (nI unk), .int (nI cnt), .int sv, .int sk, .int ck])), (ad 13, .inl (cI, 30, .inl LO)), (ad 14, .inl (cI, 30, .inl ST)), (ad 15, .inl (cI, 30, .inl HI)), (ad 16, .inl (cZ, 30, .inl KP)), (ad 17, .inl (cI, 11, .inl NB))]
/-- the first N places get x -/
def fl (N : Nat) (x : Int32) (f : Nat → Int32) : Nat → Int32 := fun j => if j < N then x else f j
theorem fl_0 (x : Int32) (f : Nat → Int32) : fl 0 x f = f := by funext j; rw [fl, if_neg (by omega)]
theorem fl_s (i : Nat) (x : Int32) (f : Nat → Int32) : upd (fl i x f) i x = fl (i + 1) x f := by
  funext j
  rcases Nat.lt_trichotomy j i with h | h | h
  · rw [pk_un (by omega), fl, fl, if_pos h, if_pos (by omega)]
  · subst h; rw [pk_us, fl, if_pos (by omega)]
  · rw [pk_un (by omega), fl, fl, if_neg (by omega), if_neg (by omega)]
/-- one round over the needs from i on, m of them -/
def ps (lo hi : Nat → Nat) (ST KP : Nat → Int32) : Nat → Nat → (Nat → Int32) → Int32 → (Nat → Int32) × Int32
  | _, 0, NB, b => (NB, b)
  | i, m + 1, NB, b => if KP i = 0 then ps lo hi ST KP (i + 1) m NB b else if NB (lo i) + ST i ≤ NB (hi i) then ps lo hi ST KP (i + 1) m NB b else ps lo hi ST KP (i + 1) m (upd NB (hi i) (NB (lo i) + ST i)) 1
theorem ps_0 {lo hi : Nat → Nat} {ST KP : Nat → Int32} {i m : Nat} {NB : Nat → Int32} {b : Int32} (h : KP i = 0) : ps lo hi ST KP i (m + 1) NB b = ps lo hi ST KP (i + 1) m NB b := by rw [ps, if_pos h]
theorem ps_1 {lo hi : Nat → Nat} {ST KP : Nat → Int32} {i m : Nat} {NB : Nat → Int32} {b : Int32} (h : ¬ KP i = 0) (h2 : NB (lo i) + ST i ≤ NB (hi i)) : ps lo hi ST KP i (m + 1) NB b = ps lo hi ST KP (i + 1) m NB b := by rw [ps, if_neg h, if_pos h2]
theorem ps_2 {lo hi : Nat → Nat} {ST KP : Nat → Int32} {i m : Nat} {NB : Nat → Int32} {b : Int32} (h : ¬ KP i = 0) (h2 : ¬ NB (lo i) + ST i ≤ NB (hi i)) : ps lo hi ST KP i (m + 1) NB b = ps lo hi ST KP (i + 1) m (upd NB (hi i) (NB (lo i) + ST i)) 1 := by rw [ps, if_neg h, if_neg h2]
theorem ps_b {lo hi : Nat → Nat} {ST KP : Nat → Int32} : ∀ (m i : Nat) (NB : Nat → Int32) (b : Int32), (b = 0 ∨ b = 1) → (ps lo hi ST KP i m NB b).2 = 0 ∨ (ps lo hi ST KP i m NB b).2 = 1
  | 0, _, _, _, h => h
  | m + 1, i, NB, b, h => by
    rw [ps]
    split
    · exact ps_b m _ _ _ h
    · split
      · exact ps_b m _ _ _ h
      · exact ps_b m _ _ _ (Or.inr rfl)
/-- rounds, m at most -/
def rds (lo hi : Nat → Nat) (ST KP : Nat → Int32) (cnt : Nat) : Nat → (Nat → Int32) → Int32 × (Nat → Int32)
  | 0, NB => (0, NB)
  | m + 1, NB => if (ps lo hi ST KP 0 cnt NB 0).2 = 0 then (1, (ps lo hi ST KP 0 cnt NB 0).1) else if (ps lo hi ST KP 0 cnt NB 0).1 10 ≤ 0 then rds lo hi ST KP cnt m (ps lo hi ST KP 0 cnt NB 0).1 else (0, (ps lo hi ST KP 0 cnt NB 0).1)
theorem rds_b {lo hi : Nat → Nat} {ST KP : Nat → Int32} {cnt : Nat} : ∀ (m : Nat) (NB : Nat → Int32), (rds lo hi ST KP cnt m NB).1 = 0 ∨ (rds lo hi ST KP cnt m NB).1 = 1
  | 0, _ => Or.inl rfl
  | m + 1, NB => by
    rw [rds]
    split
    · exact Or.inr rfl
    · split
      · exact rds_b m _
      · exact Or.inl rfl
/-- whether the kept needs can be solved, and the numbers behind it -/
def cks (lo hi : Nat → Nat) (ST KP : Nat → Int32) (cnt : Nat) (NB : Nat → Int32) : Int32 × (Nat → Int32) := rds lo hi ST KP cnt 12 (fl 11 0 NB)
theorem cks_b {lo hi : Nat → Nat} {ST KP : Nat → Int32} {cnt : Nat} {NB : Nat → Int32} : (cks lo hi ST KP cnt NB).1 = 0 ∨ (cks lo hi ST KP cnt NB).1 = 1 := rds_b _ _
/-- the clash, from need i - 1 down -/
def kco (lo hi : Nat → Nat) (ST : Nat → Int32) (cnt : Nat) : Nat → (Nat → Int32) → (Nat → Int32) → (Nat → Int32) × (Nat → Int32)
  | 0, KP, NB => (KP, NB)
  | i + 1, KP, NB => kco lo hi ST cnt i (upd (upd KP i 0) i (cks lo hi ST (upd KP i 0) cnt NB).1) (cks lo hi ST (upd KP i 0) cnt NB).2
theorem bz {x : Int32} (h : x = 0 ∨ x = 1) : vp_nar .boolean x = x := by rcases h with rfl | rfl <;> rfl
theorem bn {x : Int32} (h : x = 0 ∨ x = 1) : narrow .boolean (.int x) = .int x := by rcases h with rfl | rfl <;> rfl
theorem bf {x : Int32} (h : x = 0 ∨ x = 1) : fits .boolean (.int x) = true := by rcases h with rfl | rfl <;> rfl
theorem hs_b (x : Int32) (n : Nat) : hs x n = 0 ∨ hs x n = 1 := by
  unfold hs
  split
  · exact Or.inl rfl
  · split
    · exact Or.inl rfl
    · exact Or.inr rfl
end
section
set_option maxHeartbeats 4000000 in
set_option maxRecDepth 100000 in
theorem c_Nd_unknowns (l : Launch) (dC : Nat → ClassId) (dI : Nat → Nat → Nat) (cI cL cZ : ClassId) (ad : Nat → Nat) (LO ST HI KP NB : Nat → Int32) (unk cnt : Nat) (sv sk ck : Int32) (hunk : unk ≤ 10) (hcnt : cnt ≤ 30)  : Met l y_Nd_unknowns (cw_Nd_unknowns :: tb) (rmH 1 0 0) (va_Pc [.ref (ad 12)] (ry_P (dC, dI) classes (wNd cI cZ ad LO ST HI KP NB unk cnt sv sk ck) (tyI cI cL cZ))) (ry_S ry_i (fun r => r = nI unk)) 0 0 (fun _ => False) := by
  refine Met.ofW (cc := b_Nd_unknowns) (maxL := 1) (ret := (some .int)) (by decide +kernel) rfl ?_
  intro p e s m args below meth c s₁ B hml0 hv
  have C0 := cx_of B hml0 rfl
  obtain ⟨hx, hb, hr, hml, hown, htb, hlocks⟩ := id C0
  obtain ⟨rfl, hP, hK⟩ := hv
  have hl := lv_entry ([.ref (ad 12)]) (n := 1) (Nat.le_of_ble_eq_true rfl)
  rw [lg_entry_eq]
  generalize (lg_sl ([.ref (ad 12)]) ++ List.replicate (1 - (lg_sl ([.ref (ad 12)])).length) Slot.unset).toArray = ls at hl ⊢
  have hl : lv_has ls 1 [(0, .ref (ad 12))] := hl
  have hP : va_P (dC, dI) classes [((ad 12), .inr (3, [.ref (ad 13), .ref (ad 14), .ref (ad 15), .ref (ad 16), .ref (ad 17), .int (nI unk), .int (nI cnt), .int sv, .int sk, .int ck])), ((ad 13), .inl (cI, 30, .inl LO)), ((ad 14), .inl (cI, 30, .inl ST)), ((ad 15), .inl (cI, 30, .inl HI)), ((ad 16), .inl (cZ, 30, .inl KP)), ((ad 17), .inl (cI, 11, .inl NB))] s.heap := hP
  refine lv_aload_n hx hb d_Nd_unknowns_0 rfl (lv_at hl 0 rfl) ?_
  refine va_get (D := (dC, dI)) (ci := 3) (v := .int (nI unk)) (C := R_Nd) (T := F_Nd) (N := 10) hx hb htb ul_Nd hown hK hP 0 rfl rfl 5 (by decide) (htb _ mw_83) (fun _ h9 => h9) rfl d_Nd_unknowns_1 ?_
  exact W.iret (v := (nI unk)) hx hb hr (fun t ht hW => ⟨(nI unk), rfl, rfl, ht⟩) (fun _ h => by cases h) d_Nd_unknowns_4

set_option maxHeartbeats 4000000 in
set_option maxRecDepth 100000 in
theorem c_Nd_size (l : Launch) (dC : Nat → ClassId) (dI : Nat → Nat → Nat) (cI cL cZ : ClassId) (ad : Nat → Nat) (LO ST HI KP NB : Nat → Int32) (unk cnt : Nat) (sv sk ck : Int32) (hunk : unk ≤ 10) (hcnt : cnt ≤ 30)  : Met l y_Nd_size (cw_Nd_size :: tb) (rmH 1 0 0) (va_Pc [.ref (ad 12)] (ry_P (dC, dI) classes (wNd cI cZ ad LO ST HI KP NB unk cnt sv sk ck) (tyI cI cL cZ))) (ry_S ry_i (fun r => r = nI cnt)) 0 0 (fun _ => False) := by
  refine Met.ofW (cc := b_Nd_size) (maxL := 1) (ret := (some .int)) (by decide +kernel) rfl ?_
  intro p e s m args below meth c s₁ B hml0 hv
  have C0 := cx_of B hml0 rfl
  obtain ⟨hx, hb, hr, hml, hown, htb, hlocks⟩ := id C0
  obtain ⟨rfl, hP, hK⟩ := hv
  have hl := lv_entry ([.ref (ad 12)]) (n := 1) (Nat.le_of_ble_eq_true rfl)
  rw [lg_entry_eq]
  generalize (lg_sl ([.ref (ad 12)]) ++ List.replicate (1 - (lg_sl ([.ref (ad 12)])).length) Slot.unset).toArray = ls at hl ⊢
  have hl : lv_has ls 1 [(0, .ref (ad 12))] := hl
  have hP : va_P (dC, dI) classes [((ad 12), .inr (3, [.ref (ad 13), .ref (ad 14), .ref (ad 15), .ref (ad 16), .ref (ad 17), .int (nI unk), .int (nI cnt), .int sv, .int sk, .int ck])), ((ad 13), .inl (cI, 30, .inl LO)), ((ad 14), .inl (cI, 30, .inl ST)), ((ad 15), .inl (cI, 30, .inl HI)), ((ad 16), .inl (cZ, 30, .inl KP)), ((ad 17), .inl (cI, 11, .inl NB))] s.heap := hP
  refine lv_aload_n hx hb d_Nd_size_0 rfl (lv_at hl 0 rfl) ?_
  refine va_get (D := (dC, dI)) (ci := 3) (v := .int (nI cnt)) (C := R_Nd) (T := F_Nd) (N := 10) hx hb htb ul_Nd hown hK hP 0 rfl rfl 6 (by decide) (htb _ mw_84) (fun _ h9 => h9) rfl d_Nd_size_1 ?_
  exact W.iret (v := (nI cnt)) hx hb hr (fun t ht hW => ⟨(nI cnt), rfl, rfl, ht⟩) (fun _ h => by cases h) d_Nd_size_4

set_option maxHeartbeats 4000000 in
set_option maxRecDepth 100000 in
theorem c_Nd_isUnknown (l : Launch) (dC : Nat → ClassId) (dI : Nat → Nat → Nat) (cI cL cZ : ClassId) (ad : Nat → Nat) (LO ST HI KP NB : Nat → Int32) (unk cnt : Nat) (sv sk ck : Int32) (hunk : unk ≤ 10) (hcnt : cnt ≤ 30) (x : Int32) : Met l y_Nd_isUnknown (cw_Nd_isUnknown :: tb) (rmH 1 0 0) (va_Pc [.ref (ad 12), .int x] (ry_P (dC, dI) classes (wNd cI cZ ad LO ST HI KP NB unk cnt sv sk ck) (tyI cI cL cZ))) (ry_S ry_i (fun r => r = hs x unk)) 0 0 (fun _ => False) := by
  refine Met.ofW (cc := b_Nd_isUnknown) (maxL := 2) (ret := (some .boolean)) (by decide +kernel) rfl ?_
  intro p e s m args below meth c s₁ B hml0 hv
  have C0 := cx_of B hml0 rfl
  obtain ⟨hx, hb, hr, hml, hown, htb, hlocks⟩ := id C0
  obtain ⟨rfl, hP, hK⟩ := hv
  have hl := lv_entry ([.ref (ad 12), .int x]) (n := 2) (Nat.le_of_ble_eq_true rfl)
  rw [lg_entry_eq]
  generalize (lg_sl ([.ref (ad 12), .int x]) ++ List.replicate (2 - (lg_sl ([.ref (ad 12), .int x])).length) Slot.unset).toArray = ls at hl ⊢
  have hl : lv_has ls 2 [(0, .ref (ad 12)), (1, .int x)] := hl
  have hP : va_P (dC, dI) classes [((ad 12), .inr (3, [.ref (ad 13), .ref (ad 14), .ref (ad 15), .ref (ad 16), .ref (ad 17), .int (nI unk), .int (nI cnt), .int sv, .int sk, .int ck])), ((ad 13), .inl (cI, 30, .inl LO)), ((ad 14), .inl (cI, 30, .inl ST)), ((ad 15), .inl (cI, 30, .inl HI)), ((ad 16), .inl (cZ, 30, .inl KP)), ((ad 17), .inl (cI, 11, .inl NB))] s.heap := hP
  refine lv_iload_n hx hb d_Nd_isUnknown_0 rfl (lv_at hl 1 rfl) ?_
  refine lv_if_lt (tgt := 16) hx hb d_Nd_isUnknown_1 (by decide) (fun c_1 => ?_) (fun c_1 => ?_)
  · refine lv_iconst (v := 0) hx hb d_Nd_isUnknown_16 (by decide) ?_
    exact W.zret (v := 0) hx hb hr rfl (fun t ht hW => ⟨0, rfl, (by rw [hs, if_pos c_1]), ht⟩) (fun _ h => by cases h) d_Nd_isUnknown_17
  · refine lv_iload_n hx hb d_Nd_isUnknown_4 rfl (lv_at hl 1 rfl) ?_
    refine lv_aload_n hx hb d_Nd_isUnknown_5 rfl (lv_at hl 0 rfl) ?_
    refine va_get (D := (dC, dI)) (ci := 3) (v := .int (nI unk)) (C := R_Nd) (T := F_Nd) (N := 10) hx hb htb ul_Nd hown hK hP 0 rfl rfl 5 (by decide) (htb _ mw_83) (fun _ h9 => h9) rfl d_Nd_isUnknown_6 ?_
    refine lv_icmp_ge (tgt := 16) hx hb d_Nd_isUnknown_9 (by decide) (fun c_9 => ?_) (fun c_9 => ?_)
    · refine lv_iconst (v := 0) hx hb d_Nd_isUnknown_16 (by decide) ?_
      exact W.zret (v := 0) hx hb hr rfl (fun t ht hW => ⟨0, rfl, (by rw [hs, if_neg c_1, if_pos c_9]), ht⟩) (fun _ h => by cases h) d_Nd_isUnknown_17
    · refine lv_iconst (v := 1) hx hb d_Nd_isUnknown_12 (by decide) ?_
      refine lv_goto (tgt := 17) hx hb d_Nd_isUnknown_13 (by decide) ?_
      exact W.zret (v := 1) hx hb hr rfl (fun t ht hW => ⟨1, rfl, (by rw [hs, if_neg c_1, if_neg c_9]), ht⟩) (fun _ h => by cases h) d_Nd_isUnknown_17

set_option maxHeartbeats 4000000 in
set_option maxRecDepth 100000 in
theorem c_Nd_isSide (l : Launch) (dC : Nat → ClassId) (dI : Nat → Nat → Nat) (cI cL cZ : ClassId) (ad : Nat → Nat) (LO ST HI KP NB : Nat → Int32) (unk cnt : Nat) (sv sk ck : Int32) (hunk : unk ≤ 10) (hcnt : cnt ≤ 30) (x : Int32) : Met l y_Nd_isSide (cw_Nd_isSide :: tb) (rmH 2 0 0) (va_Pc [.ref (ad 12), .int x] (ry_P (dC, dI) classes (wNd cI cZ ad LO ST HI KP NB unk cnt sv sk ck) (tyI cI cL cZ))) (ry_S ry_i (fun r => r = if x = -1 ∨ hs x unk = 1 then 1 else 0)) 0 0 (fun _ => False) := by
  refine Met.ofW (cc := b_Nd_isSide) (maxL := 2) (ret := (some .boolean)) (by decide +kernel) rfl ?_
  intro p e s m args below meth c s₁ B hml0 hv
  have C0 := cx_of B hml0 rfl
  obtain ⟨hx, hb, hr, hml, hown, htb, hlocks⟩ := id C0
  obtain ⟨rfl, hP, hK⟩ := hv
  have hl := lv_entry ([.ref (ad 12), .int x]) (n := 2) (Nat.le_of_ble_eq_true rfl)
  rw [lg_entry_eq]
  generalize (lg_sl ([.ref (ad 12), .int x]) ++ List.replicate (2 - (lg_sl ([.ref (ad 12), .int x])).length) Slot.unset).toArray = ls at hl ⊢
  have hl : lv_has ls 2 [(0, .ref (ad 12)), (1, .int x)] := hl
  have hP : va_P (dC, dI) classes [((ad 12), .inr (3, [.ref (ad 13), .ref (ad 14), .ref (ad 15), .ref (ad 16), .ref (ad 17), .int (nI unk), .int (nI cnt), .int sv, .int sk, .int ck])), ((ad 13), .inl (cI, 30, .inl LO)), ((ad 14), .inl (cI, 30, .inl ST)), ((ad 15), .inl (cI, 30, .inl HI)), ((ad 16), .inl (cZ, 30, .inl KP)), ((ad 17), .inl (cI, 11, .inl NB))] s.heap := hP
  refine lv_iload_n hx hb d_Nd_isSide_0 rfl (lv_at hl 1 rfl) ?_
  refine lv_iconst (v := (-1)) hx hb d_Nd_isSide_1 (by decide) ?_
  refine lv_icmp_eq (tgt := 13) hx hb d_Nd_isSide_2 (by decide) (fun c_2 => ?_) (fun c_2 => ?_)
  · refine lv_iconst (v := 1) hx hb d_Nd_isSide_13 (by decide) ?_
    refine lv_goto (tgt := 18) hx hb d_Nd_isSide_14 (by decide) ?_
    exact W.zret (v := 1) hx hb hr rfl (fun t ht hW => ⟨1, rfl, (by rw [if_pos (Or.inl c_2)]), ht⟩) (fun _ h => by cases h) d_Nd_isSide_18
  · refine lv_aload_n hx hb d_Nd_isSide_5 rfl (lv_at hl 0 rfl) ?_
    refine lv_iload_n hx hb d_Nd_isSide_6 rfl (lv_at hl 1 rfl) ?_
    refine ry_callV (n := 1) (As := [.int x]) (rest := []) ⟨hx, hb, hml, hown, htb⟩ (c_Nd_isUnknown l dC dI cI cL cZ ad LO ST HI KP NB unk cnt sv sk ck hunk hcnt x) (gV mw_178 mw_180 mp_4 mw_4 mc_Nd_isUnknown) rfl rfl (by decide +kernel) ⟨Nat.le_of_ble_eq_true rfl, Nat.le_of_ble_eq_true rfl⟩ (hP.sub [0, 1, 2, 3, 4, 5] rfl) hK (ci := 3) (q0 := 0) rfl rfl rfl rfl hl.1 rfl (Nat.le_of_ble_eq_true rfl) d_Nd_isSide_7 ⟨Nat.zero_le _, Nat.zero_le _⟩ (fun r_1 hr_1 => ?_)
    subst hr_1
    refine W.eq (g2 := F0 m 10 ls [.int (hs x unk)]) rfl ?_
    refine lv_if_eq (tgt := 17) hx hb d_Nd_isSide_10 (by decide) (fun c_10 => ?_) (fun c_10 => ?_)
    · refine lv_iconst (v := 0) hx hb d_Nd_isSide_17 (by decide) ?_
      exact W.zret (v := 0) hx hb hr rfl (fun t ht hW => ⟨0, rfl, (by rw [if_neg (fun z => z.elim c_2 (fun y => absurd (y.symm.trans c_10) (by decide)))]), ht⟩) (fun _ h => by cases h) d_Nd_isSide_18
    · refine lv_iconst (v := 1) hx hb d_Nd_isSide_13 (by decide) ?_
      refine lv_goto (tgt := 18) hx hb d_Nd_isSide_14 (by decide) ?_
      exact W.zret (v := 1) hx hb hr rfl (fun t ht hW => ⟨1, rfl, (by rw [if_pos (Or.inr ((hs_b x unk).resolve_left c_10))]), ht⟩) (fun _ h => by cases h) d_Nd_isSide_18

set_option maxHeartbeats 4000000 in
set_option maxRecDepth 100000 in
theorem c_Nd_addUnknown (l : Launch) (dC : Nat → ClassId) (dI : Nat → Nat → Nat) (cI cL cZ : ClassId) (ad : Nat → Nat) (LO ST HI KP NB : Nat → Int32) (unk cnt : Nat) (sv sk ck : Int32) (hunk : unk ≤ 10) (hcnt : cnt ≤ 30) (h1 : unk < 10) (sz : Nat) : Met l y_Nd_addUnknown (cw_Nd_addUnknown :: tb) (rmH 1 0 0) (va_Pc [.ref (ad 12)] (wy_P (dC, dI) classes (wNd cI cZ ad LO ST HI KP NB unk cnt sv sk ck) (tyI cI cL cZ) sz)) (wy_Q ry_i (fun r (u : Unit) => r = nI unk) (wy_B (dC, dI) classes (tyI cI cL cZ) (va_A (wNd cI cZ ad LO ST HI KP NB unk cnt sv sk ck) sz) (fun u : Unit => (wNd cI cZ ad LO ST HI KP NB (unk + 1) cnt sv sk ck))) (va_A (wNd cI cZ ad LO ST HI KP NB unk cnt sv sk ck) sz)) 0 0 (va_A (wNd cI cZ ad LO ST HI KP NB unk cnt sv sk ck) sz) := by
  refine Met.ofW (cc := b_Nd_addUnknown) (maxL := 1) (ret := (some .int)) (by decide +kernel) rfl ?_
  intro p e s m args below meth c s₁ B hml0 hv
  have C0 := cx_of B hml0 rfl
  obtain ⟨hx, hb, hr, hml, hown, htb, hlocks⟩ := id C0
  obtain ⟨rfl, hsz, hP, hK, hD0⟩ := hv
  subst hsz
  have hD := hD0.self (sz := s.heap.size)
  generalize hAe : va_A (wNd cI cZ ad LO ST HI KP NB unk cnt sv sk ck) s.heap.size = A at hD ⊢
  have hA : ∀ q : Nat, s.heap.size ≤ q → A q := fun q h => by rw [← hAe]; exact Or.inr h
  have hS : va_S A s.heap s.heap [] := va_S.rf
  have hl := lv_entry ([.ref (ad 12)]) (n := 1) (Nat.le_of_ble_eq_true rfl)
  rw [lg_entry_eq]
  generalize (lg_sl ([.ref (ad 12)]) ++ List.replicate (1 - (lg_sl ([.ref (ad 12)])).length) Slot.unset).toArray = ls at hl ⊢
  have hl : lv_has ls 1 [(0, .ref (ad 12))] := hl
  have hP : va_P (dC, dI) classes [((ad 12), .inr (3, [.ref (ad 13), .ref (ad 14), .ref (ad 15), .ref (ad 16), .ref (ad 17), .int (nI unk), .int (nI cnt), .int sv, .int sk, .int ck])), ((ad 13), .inl (cI, 30, .inl LO)), ((ad 14), .inl (cI, 30, .inl ST)), ((ad 15), .inl (cI, 30, .inl HI)), ((ad 16), .inl (cZ, 30, .inl KP)), ((ad 17), .inl (cI, 11, .inl NB))] s.heap := hP
  have hD : va_D A [((ad 12), .inr (3, [.ref (ad 13), .ref (ad 14), .ref (ad 15), .ref (ad 16), .ref (ad 17), .int (nI unk), .int (nI cnt), .int sv, .int sk, .int ck])), ((ad 13), .inl (cI, 30, .inl LO)), ((ad 14), .inl (cI, 30, .inl ST)), ((ad 15), .inl (cI, 30, .inl HI)), ((ad 16), .inl (cZ, 30, .inl KP)), ((ad 17), .inl (cI, 11, .inl NB))] := hD
  have hA0 := hA
  refine lv_aload_n hx hb d_Nd_addUnknown_0 rfl (lv_at hl 0 rfl) ?_
  refine lv_dup hx hb d_Nd_addUnknown_1 rfl ?_
  refine va_get (D := (dC, dI)) (ci := 3) (v := .int (nI unk)) (C := R_Nd) (T := F_Nd) (N := 10) hx hb htb ul_Nd hown hK hP 0 rfl rfl 5 (by decide) (htb _ mw_83) (fun _ h9 => h9) rfl d_Nd_addUnknown_2 ?_
  refine lv_iconst (v := 1) hx hb d_Nd_addUnknown_5 (by decide) ?_
  refine lv_iadd hx hb d_Nd_addUnknown_6 ?_
  rw [nI_1]
  refine va_put (D := (dC, dI)) (ci := 3) (v := .int (nI (unk + 1))) (ty := .int) (C := R_Nd) (T := F_Nd) (N := 10) hx hb htb ul_Nd t_Nd t_Nd_ok n_Nd hown hK hP hD hS 0 rfl rfl 5 (by decide) (htb _ mw_83) (fun _ h9 => h9) rfl (by decide +kernel) rfl rfl (Nat.le_of_ble_eq_true rfl) d_Nd_addUnknown_7 (fun H locs hP hD hS => ?_)
  have hP : va_P (dC, dI) classes [((ad 12), .inr (3, [.ref (ad 13), .ref (ad 14), .ref (ad 15), .ref (ad 16), .ref (ad 17), .int (nI (unk + 1)), .int (nI cnt), .int sv, .int sk, .int ck])), ((ad 13), .inl (cI, 30, .inl LO)), ((ad 14), .inl (cI, 30, .inl ST)), ((ad 15), .inl (cI, 30, .inl HI)), ((ad 16), .inl (cZ, 30, .inl KP)), ((ad 17), .inl (cI, 11, .inl NB))] H := hP
  have hD : va_D A [((ad 12), .inr (3, [.ref (ad 13), .ref (ad 14), .ref (ad 15), .ref (ad 16), .ref (ad 17), .int (nI (unk + 1)), .int (nI cnt), .int sv, .int sk, .int ck])), ((ad 13), .inl (cI, 30, .inl LO)), ((ad 14), .inl (cI, 30, .inl ST)), ((ad 15), .inl (cI, 30, .inl HI)), ((ad 16), .inl (cZ, 30, .inl KP)), ((ad 17), .inl (cI, 11, .inl NB))] := hD
  refine lv_aload_n hx hb d_Nd_addUnknown_10 rfl (lv_at hl 0 rfl) ?_
  refine va_get (D := (dC, dI)) (ci := 3) (v := .int (nI (unk + 1))) (C := R_Nd) (T := F_Nd) (N := 10) hx hb htb ul_Nd hown hK hP 0 rfl rfl 5 (by decide) (htb _ mw_83) (fun _ h9 => h9) rfl d_Nd_addUnknown_11 ?_
  refine lv_iconst (v := 1) hx hb d_Nd_addUnknown_14 (by decide) ?_
  refine lv_isub hx hb d_Nd_addUnknown_15 ?_
  rw [nI_pred]
  exact W.iret (v := (nI unk)) hx hb hr (fun t ht hW => ⟨⟨(nI unk), (), rfl, rfl, by rw [ht]; exact hP, va_K.moved hW.alike hK, hD⟩, hS.F ht⟩) hS.2.2 d_Nd_addUnknown_16

set_option maxHeartbeats 4000000 in
set_option maxRecDepth 100000 in
theorem c_Nd_forget (l : Launch) (dC : Nat → ClassId) (dI : Nat → Nat → Nat) (cI cL cZ : ClassId) (ad : Nat → Nat) (LO ST HI KP NB : Nat → Int32) (unk cnt : Nat) (sv sk ck : Int32) (hunk : unk ≤ 10) (hcnt : cnt ≤ 30)  (sz : Nat) : Met l y_Nd_forget (cw_Nd_forget :: tb) (rmH 1 0 0) (va_Pc [.ref (ad 12)] (wy_P (dC, dI) classes (wNd cI cZ ad LO ST HI KP NB unk cnt sv sk ck) (tyI cI cL cZ) sz)) (wy_Q ry_v (fun _ (u : Unit) => True) (wy_B (dC, dI) classes (tyI cI cL cZ) (va_A (wNd cI cZ ad LO ST HI KP NB unk cnt sv sk ck) sz) (fun u : Unit => (wNd cI cZ ad LO ST HI KP NB unk cnt sv 0 0))) (va_A (wNd cI cZ ad LO ST HI KP NB unk cnt sv sk ck) sz)) 0 0 (va_A (wNd cI cZ ad LO ST HI KP NB unk cnt sv sk ck) sz) := by
  refine Met.ofW (cc := b_Nd_forget) (maxL := 1) (ret := none) (by decide +kernel) rfl ?_
  intro p e s m args below meth c s₁ B hml0 hv
  have C0 := cx_of B hml0 rfl
  obtain ⟨hx, hb, hr, hml, hown, htb, hlocks⟩ := id C0
  obtain ⟨rfl, hsz, hP, hK, hD0⟩ := hv
  subst hsz
  have hD := hD0.self (sz := s.heap.size)
  generalize hAe : va_A (wNd cI cZ ad LO ST HI KP NB unk cnt sv sk ck) s.heap.size = A at hD ⊢
  have hA : ∀ q : Nat, s.heap.size ≤ q → A q := fun q h => by rw [← hAe]; exact Or.inr h
  have hS : va_S A s.heap s.heap [] := va_S.rf
  have hl := lv_entry ([.ref (ad 12)]) (n := 1) (Nat.le_of_ble_eq_true rfl)
  rw [lg_entry_eq]
  generalize (lg_sl ([.ref (ad 12)]) ++ List.replicate (1 - (lg_sl ([.ref (ad 12)])).length) Slot.unset).toArray = ls at hl ⊢
  have hl : lv_has ls 1 [(0, .ref (ad 12))] := hl
  have hP : va_P (dC, dI) classes [((ad 12), .inr (3, [.ref (ad 13), .ref (ad 14), .ref (ad 15), .ref (ad 16), .ref (ad 17), .int (nI unk), .int (nI cnt), .int sv, .int sk, .int ck])), ((ad 13), .inl (cI, 30, .inl LO)), ((ad 14), .inl (cI, 30, .inl ST)), ((ad 15), .inl (cI, 30, .inl HI)), ((ad 16), .inl (cZ, 30, .inl KP)), ((ad 17), .inl (cI, 11, .inl NB))] s.heap := hP
  have hD : va_D A [((ad 12), .inr (3, [.ref (ad 13), .ref (ad 14), .ref (ad 15), .ref (ad 16), .ref (ad 17), .int (nI unk), .int (nI cnt), .int sv, .int sk, .int ck])), ((ad 13), .inl (cI, 30, .inl LO)), ((ad 14), .inl (cI, 30, .inl ST)), ((ad 15), .inl (cI, 30, .inl HI)), ((ad 16), .inl (cZ, 30, .inl KP)), ((ad 17), .inl (cI, 11, .inl NB))] := hD
  have hA0 := hA
  refine lv_aload_n hx hb d_Nd_forget_0 rfl (lv_at hl 0 rfl) ?_
  refine lv_iconst (v := 0) hx hb d_Nd_forget_1 (by decide) ?_
  refine va_put (D := (dC, dI)) (ci := 3) (v := .int 0) (ty := .boolean) (C := R_Nd) (T := F_Nd) (N := 10) hx hb htb ul_Nd t_Nd t_Nd_ok n_Nd hown hK hP hD hS 0 rfl rfl 8 (by decide) (htb _ mw_86) (fun _ h9 => h9) rfl (by decide +kernel) rfl rfl (Nat.le_of_ble_eq_true rfl) d_Nd_forget_2 (fun H locs hP hD hS => ?_)
  have hP : va_P (dC, dI) classes [((ad 12), .inr (3, [.ref (ad 13), .ref (ad 14), .ref (ad 15), .ref (ad 16), .ref (ad 17), .int (nI unk), .int (nI cnt), .int sv, .int 0, .int ck])), ((ad 13), .inl (cI, 30, .inl LO)), ((ad 14), .inl (cI, 30, .inl ST)), ((ad 15), .inl (cI, 30, .inl HI)), ((ad 16), .inl (cZ, 30, .inl KP)), ((ad 17), .inl (cI, 11, .inl NB))] H := hP
  have hD : va_D A [((ad 12), .inr (3, [.ref (ad 13), .ref (ad 14), .ref (ad 15), .ref (ad 16), .ref (ad 17), .int (nI unk), .int (nI cnt), .int sv, .int 0, .int ck])), ((ad 13), .inl (cI, 30, .inl LO)), ((ad 14), .inl (cI, 30, .inl ST)), ((ad 15), .inl (cI, 30, .inl HI)), ((ad 16), .inl (cZ, 30, .inl KP)), ((ad 17), .inl (cI, 11, .inl NB))] := hD
  refine lv_aload_n hx hb d_Nd_forget_5 rfl (lv_at hl 0 rfl) ?_
  refine lv_iconst (v := 0) hx hb d_Nd_forget_6 (by decide) ?_
  refine va_put (D := (dC, dI)) (ci := 3) (v := .int 0) (ty := .boolean) (C := R_Nd) (T := F_Nd) (N := 10) hx hb htb ul_Nd t_Nd t_Nd_ok n_Nd hown hK hP hD hS 0 rfl rfl 9 (by decide) (htb _ mw_87) (fun _ h9 => h9) rfl (by decide +kernel) rfl rfl (Nat.le_of_ble_eq_true rfl) d_Nd_forget_7 (fun H locs hP hD hS => ?_)
  have hP : va_P (dC, dI) classes [((ad 12), .inr (3, [.ref (ad 13), .ref (ad 14), .ref (ad 15), .ref (ad 16), .ref (ad 17), .int (nI unk), .int (nI cnt), .int sv, .int 0, .int 0])), ((ad 13), .inl (cI, 30, .inl LO)), ((ad 14), .inl (cI, 30, .inl ST)), ((ad 15), .inl (cI, 30, .inl HI)), ((ad 16), .inl (cZ, 30, .inl KP)), ((ad 17), .inl (cI, 11, .inl NB))] H := hP
  have hD : va_D A [((ad 12), .inr (3, [.ref (ad 13), .ref (ad 14), .ref (ad 15), .ref (ad 16), .ref (ad 17), .int (nI unk), .int (nI cnt), .int sv, .int 0, .int 0])), ((ad 13), .inl (cI, 30, .inl LO)), ((ad 14), .inl (cI, 30, .inl ST)), ((ad 15), .inl (cI, 30, .inl HI)), ((ad 16), .inl (cZ, 30, .inl KP)), ((ad 17), .inl (cI, 11, .inl NB))] := hD
  exact W.vret hx hb hr (fun t ht hW => ⟨⟨(), (), rfl, trivial, by rw [ht]; exact hP, va_K.moved hW.alike hK, hD⟩, hS.F ht⟩) hS.2.2 d_Nd_forget_10

set_option maxHeartbeats 4000000 in
set_option maxRecDepth 100000 in
theorem c0_Nd_removeLatest (l : Launch) (dC : Nat → ClassId) (dI : Nat → Nat → Nat) (cI cL cZ : ClassId) (ad : Nat → Nat) (LO ST HI KP NB : Nat → Int32) (unk cnt : Nat) (sv sk ck : Int32) (hunk : unk ≤ 10) (hcnt : cnt ≤ 30) (h0 : cnt = 0) (sz : Nat) : Met l y_Nd_removeLatest (cw_Nd_removeLatest :: tb) (rmH 2 0 0) (va_Pc [.ref (ad 12)] (wy_P (dC, dI) classes (wNd cI cZ ad LO ST HI KP NB unk cnt sv sk ck) (tyI cI cL cZ) sz)) (wy_Q ry_i (fun r (u : Unit) => r = 0) (wy_B (dC, dI) classes (tyI cI cL cZ) (va_A (wNd cI cZ ad LO ST HI KP NB unk cnt sv sk ck) sz) (fun u : Unit => (wNd cI cZ ad LO ST HI KP NB unk cnt sv sk ck))) (va_A (wNd cI cZ ad LO ST HI KP NB unk cnt sv sk ck) sz)) 0 0 (va_A (wNd cI cZ ad LO ST HI KP NB unk cnt sv sk ck) sz) := by
  refine Met.ofW (cc := b_Nd_removeLatest) (maxL := 1) (ret := (some .boolean)) (by decide +kernel) rfl ?_
  intro p e s m args below meth c s₁ B hml0 hv
  have C0 := cx_of B hml0 rfl
  obtain ⟨hx, hb, hr, hml, hown, htb, hlocks⟩ := id C0
  obtain ⟨rfl, hsz, hP, hK, hD0⟩ := hv
  subst hsz
  have hD := hD0.self (sz := s.heap.size)
  generalize hAe : va_A (wNd cI cZ ad LO ST HI KP NB unk cnt sv sk ck) s.heap.size = A at hD ⊢
  have hA : ∀ q : Nat, s.heap.size ≤ q → A q := fun q h => by rw [← hAe]; exact Or.inr h
  have hS : va_S A s.heap s.heap [] := va_S.rf
  have hl := lv_entry ([.ref (ad 12)]) (n := 1) (Nat.le_of_ble_eq_true rfl)
  rw [lg_entry_eq]
  generalize (lg_sl ([.ref (ad 12)]) ++ List.replicate (1 - (lg_sl ([.ref (ad 12)])).length) Slot.unset).toArray = ls at hl ⊢
  have hl : lv_has ls 1 [(0, .ref (ad 12))] := hl
  have hP : va_P (dC, dI) classes [((ad 12), .inr (3, [.ref (ad 13), .ref (ad 14), .ref (ad 15), .ref (ad 16), .ref (ad 17), .int (nI unk), .int (nI cnt), .int sv, .int sk, .int ck])), ((ad 13), .inl (cI, 30, .inl LO)), ((ad 14), .inl (cI, 30, .inl ST)), ((ad 15), .inl (cI, 30, .inl HI)), ((ad 16), .inl (cZ, 30, .inl KP)), ((ad 17), .inl (cI, 11, .inl NB))] s.heap := hP
  have hD : va_D A [((ad 12), .inr (3, [.ref (ad 13), .ref (ad 14), .ref (ad 15), .ref (ad 16), .ref (ad 17), .int (nI unk), .int (nI cnt), .int sv, .int sk, .int ck])), ((ad 13), .inl (cI, 30, .inl LO)), ((ad 14), .inl (cI, 30, .inl ST)), ((ad 15), .inl (cI, 30, .inl HI)), ((ad 16), .inl (cZ, 30, .inl KP)), ((ad 17), .inl (cI, 11, .inl NB))] := hD
  have hA0 := hA
  refine lv_aload_n hx hb d_Nd_removeLatest_0 rfl (lv_at hl 0 rfl) ?_
  refine va_get (D := (dC, dI)) (ci := 3) (v := .int (nI cnt)) (C := R_Nd) (T := F_Nd) (N := 10) hx hb htb ul_Nd hown hK hP 0 rfl rfl 6 (by decide) (htb _ mw_84) (fun _ h9 => h9) rfl d_Nd_removeLatest_1 ?_
  refine lv_if_ne (tgt := 9) hx hb d_Nd_removeLatest_4 (by decide) (fun c_4 => ?_) (fun c_4 => ?_)
  · exact absurd (by rw [h0]; rfl) c_4
  · refine lv_iconst (v := 0) hx hb d_Nd_removeLatest_7 (by decide) ?_
    exact W.zret (v := 0) hx hb hr rfl (fun t ht hW => ⟨⟨0, (), rfl, rfl, by rw [ht]; exact hP, va_K.moved hW.alike hK, hD⟩, hS.F ht⟩) hS.2.2 d_Nd_removeLatest_8

set_option maxHeartbeats 4000000 in
set_option maxRecDepth 100000 in
theorem c_Nd_removeLatest (l : Launch) (dC : Nat → ClassId) (dI : Nat → Nat → Nat) (cI cL cZ : ClassId) (ad : Nat → Nat) (LO ST HI KP NB : Nat → Int32) (unk cnt : Nat) (sv sk ck : Int32) (hunk : unk ≤ 10) (hcnt : cnt ≤ 30) (h0 : ¬ cnt = 0) (sz : Nat) : Met l y_Nd_removeLatest (cw_Nd_removeLatest :: tb) (rmH 2 0 0) (va_Pc [.ref (ad 12)] (wy_P (dC, dI) classes (wNd cI cZ ad LO ST HI KP NB unk cnt sv sk ck) (tyI cI cL cZ) sz)) (wy_Q ry_i (fun r (u : Unit) => r = 1) (wy_B (dC, dI) classes (tyI cI cL cZ) (va_A (wNd cI cZ ad LO ST HI KP NB unk cnt sv sk ck) sz) (fun u : Unit => (wNd cI cZ ad LO ST HI KP NB unk (cnt - 1) sv 0 0))) (va_A (wNd cI cZ ad LO ST HI KP NB unk cnt sv sk ck) sz)) 0 0 (va_A (wNd cI cZ ad LO ST HI KP NB unk cnt sv sk ck) sz) := by
  refine Met.ofW (cc := b_Nd_removeLatest) (maxL := 1) (ret := (some .boolean)) (by decide +kernel) rfl ?_
  intro p e s m args below meth c s₁ B hml0 hv
  have C0 := cx_of B hml0 rfl
  obtain ⟨hx, hb, hr, hml, hown, htb, hlocks⟩ := id C0
  obtain ⟨rfl, hsz, hP, hK, hD0⟩ := hv
  subst hsz
  have hD := hD0.self (sz := s.heap.size)
  generalize hAe : va_A (wNd cI cZ ad LO ST HI KP NB unk cnt sv sk ck) s.heap.size = A at hD ⊢
  have hA : ∀ q : Nat, s.heap.size ≤ q → A q := fun q h => by rw [← hAe]; exact Or.inr h
  have hS : va_S A s.heap s.heap [] := va_S.rf
  have hl := lv_entry ([.ref (ad 12)]) (n := 1) (Nat.le_of_ble_eq_true rfl)
  rw [lg_entry_eq]
  generalize (lg_sl ([.ref (ad 12)]) ++ List.replicate (1 - (lg_sl ([.ref (ad 12)])).length) Slot.unset).toArray = ls at hl ⊢
  have hl : lv_has ls 1 [(0, .ref (ad 12))] := hl
  have hP : va_P (dC, dI) classes [((ad 12), .inr (3, [.ref (ad 13), .ref (ad 14), .ref (ad 15), .ref (ad 16), .ref (ad 17), .int (nI unk), .int (nI cnt), .int sv, .int sk, .int ck])), ((ad 13), .inl (cI, 30, .inl LO)), ((ad 14), .inl (cI, 30, .inl ST)), ((ad 15), .inl (cI, 30, .inl HI)), ((ad 16), .inl (cZ, 30, .inl KP)), ((ad 17), .inl (cI, 11, .inl NB))] s.heap := hP
  have hD : va_D A [((ad 12), .inr (3, [.ref (ad 13), .ref (ad 14), .ref (ad 15), .ref (ad 16), .ref (ad 17), .int (nI unk), .int (nI cnt), .int sv, .int sk, .int ck])), ((ad 13), .inl (cI, 30, .inl LO)), ((ad 14), .inl (cI, 30, .inl ST)), ((ad 15), .inl (cI, 30, .inl HI)), ((ad 16), .inl (cZ, 30, .inl KP)), ((ad 17), .inl (cI, 11, .inl NB))] := hD
  have hA0 := hA
  refine lv_aload_n hx hb d_Nd_removeLatest_0 rfl (lv_at hl 0 rfl) ?_
  refine va_get (D := (dC, dI)) (ci := 3) (v := .int (nI cnt)) (C := R_Nd) (T := F_Nd) (N := 10) hx hb htb ul_Nd hown hK hP 0 rfl rfl 6 (by decide) (htb _ mw_84) (fun _ h9 => h9) rfl d_Nd_removeLatest_1 ?_
  refine lv_if_ne (tgt := 9) hx hb d_Nd_removeLatest_4 (by decide) (fun c_4 => ?_) (fun c_4 => ?_)
  · refine lv_aload_n hx hb d_Nd_removeLatest_9 rfl (lv_at hl 0 rfl) ?_
    refine lv_dup hx hb d_Nd_removeLatest_10 rfl ?_
    refine va_get (D := (dC, dI)) (ci := 3) (v := .int (nI cnt)) (C := R_Nd) (T := F_Nd) (N := 10) hx hb htb ul_Nd hown hK hP 0 rfl rfl 6 (by decide) (htb _ mw_84) (fun _ h9 => h9) rfl d_Nd_removeLatest_11 ?_
    refine lv_iconst (v := 1) hx hb d_Nd_removeLatest_14 (by decide) ?_
    refine lv_isub hx hb d_Nd_removeLatest_15 ?_
    rw [show (nI cnt - 1 : Int32) = nI (cnt - 1) from pk_sub (a := cnt) (b := 1) (by omega)]
    refine va_put (D := (dC, dI)) (ci := 3) (v := .int (nI (cnt - 1))) (ty := .int) (C := R_Nd) (T := F_Nd) (N := 10) hx hb htb ul_Nd t_Nd t_Nd_ok n_Nd hown hK hP hD hS 0 rfl rfl 6 (by decide) (htb _ mw_84) (fun _ h9 => h9) rfl (by decide +kernel) rfl rfl (Nat.le_of_ble_eq_true rfl) d_Nd_removeLatest_16 (fun H locs hP hD hS => ?_)
    have hP : va_P (dC, dI) classes [((ad 12), .inr (3, [.ref (ad 13), .ref (ad 14), .ref (ad 15), .ref (ad 16), .ref (ad 17), .int (nI unk), .int (nI (cnt - 1)), .int sv, .int sk, .int ck])), ((ad 13), .inl (cI, 30, .inl LO)), ((ad 14), .inl (cI, 30, .inl ST)), ((ad 15), .inl (cI, 30, .inl HI)), ((ad 16), .inl (cZ, 30, .inl KP)), ((ad 17), .inl (cI, 11, .inl NB))] H := hP
    have hD : va_D A [((ad 12), .inr (3, [.ref (ad 13), .ref (ad 14), .ref (ad 15), .ref (ad 16), .ref (ad 17), .int (nI unk), .int (nI (cnt - 1)), .int sv, .int sk, .int ck])), ((ad 13), .inl (cI, 30, .inl LO)), ((ad 14), .inl (cI, 30, .inl ST)), ((ad 15), .inl (cI, 30, .inl HI)), ((ad 16), .inl (cZ, 30, .inl KP)), ((ad 17), .inl (cI, 11, .inl NB))] := hD
    refine lv_aload_n hx hb d_Nd_removeLatest_19 rfl (lv_at hl 0 rfl) ?_
    refine wy_callV (n := 0) (wr := []) (As := []) (rest := []) ⟨hx, hb, hml, hown, htb⟩ (c_Nd_forget l dC dI cI cL cZ ad LO ST HI KP NB unk (cnt - 1) sv sk ck hunk (by omega) H.size) (gV mw_203 mw_205 mp_6 mw_4 mc_Nd_forget) rfl rfl (by decide +kernel) ⟨Nat.le_of_ble_eq_true rfl, Nat.le_of_ble_eq_true rfl⟩ hP hD hS hA hK [0, 1, 2, 3, 4, 5] [] rfl rfl (by decide) (by decide) (hP.sub [0, 1, 2, 3, 4, 5] rfl) ((hD.sub [0, 1, 2, 3, 4, 5] (by decide) rfl).weaken (fun _ _ _ _ => trivial)) (ci := 3) (q0 := 0) rfl rfl rfl rfl hl.1 rfl (Nat.le_of_ble_eq_true rfl) d_Nd_removeLatest_20 ⟨Nat.le_of_ble_eq_true rfl, Nat.le_of_ble_eq_true rfl⟩ (fun r u H locs hpost hP hD hS => ?_)
    have hP : va_P (dC, dI) classes [((ad 12), .inr (3, [.ref (ad 13), .ref (ad 14), .ref (ad 15), .ref (ad 16), .ref (ad 17), .int (nI unk), .int (nI (cnt - 1)), .int sv, .int 0, .int 0])), ((ad 13), .inl (cI, 30, .inl LO)), ((ad 14), .inl (cI, 30, .inl ST)), ((ad 15), .inl (cI, 30, .inl HI)), ((ad 16), .inl (cZ, 30, .inl KP)), ((ad 17), .inl (cI, 11, .inl NB))] H := hP
    have hD : va_D A [((ad 12), .inr (3, [.ref (ad 13), .ref (ad 14), .ref (ad 15), .ref (ad 16), .ref (ad 17), .int (nI unk), .int (nI (cnt - 1)), .int sv, .int 0, .int 0])), ((ad 13), .inl (cI, 30, .inl LO)), ((ad 14), .inl (cI, 30, .inl ST)), ((ad 15), .inl (cI, 30, .inl HI)), ((ad 16), .inl (cZ, 30, .inl KP)), ((ad 17), .inl (cI, 11, .inl NB))] := hD
    refine W.eq (g2 := F0 m 23 ls []) rfl ?_
    refine lv_iconst (v := 1) hx hb d_Nd_removeLatest_23 (by decide) ?_
    exact W.zret (v := 1) hx hb hr rfl (fun t ht hW => ⟨⟨1, (), rfl, rfl, by rw [ht]; exact hP, va_K.moved hW.alike hK, hD⟩, hS.F ht⟩) hS.2.2 d_Nd_removeLatest_24
  · exact absurd ((nI_eq (b := 0) (by omega) (by decide)).mp c_4) h0

set_option maxHeartbeats 4000000 in
set_option maxRecDepth 100000 in
theorem lp_Nd_keepAll {p : Program} (l : Launch) {e : Env} {s : State} {m : MethodId} {args : Array Value} {below : List Frame} {meth : Method} {c : Code} {Q : State → Prop} {A : Nat → Prop} {H0 : Heap} (C0 : cx p s m args meth c b_Nd_keepAll 2 none R_Nd) (dC : Nat → ClassId) (dI : Nat → Nat → Nat) (cI cL cZ : ClassId) (ad : Nat → Nat) (LO ST HI KP NB : Nat → Int32) (unk cnt : Nat) (sv sk ck : Int32) (hunk : unk ≤ 10) (hcnt : cnt ≤ 30) (hK : va_K (dC, dI) classes (tyI cI cL cZ) s) (hA : ∀ q : Nat, H0.size ≤ q → A q) 
    (KB : ∀ (H : Heap) (locs : List Loc) (ls : Array Slot), va_P (dC, dI) classes [((ad 12), .inr (3, [.ref (ad 13), .ref (ad 14), .ref (ad 15), .ref (ad 16), .ref (ad 17), .int (nI unk), .int (nI cnt), .int sv, .int sk, .int ck])), ((ad 13), .inl (cI, 30, .inl LO)), ((ad 14), .inl (cI, 30, .inl ST)), ((ad 15), .inl (cI, 30, .inl HI)), ((ad 16), .inl (cZ, 30, .inl (fl cnt 1 KP))), ((ad 17), .inl (cI, 11, .inl NB))] H → va_D A [((ad 12), .inr (3, [.ref (ad 13), .ref (ad 14), .ref (ad 15), .ref (ad 16), .ref (ad 17), .int (nI unk), .int (nI cnt), .int sv, .int sk, .int ck])), ((ad 13), .inl (cI, 30, .inl LO)), ((ad 14), .inl (cI, 30, .inl ST)), ((ad 15), .inl (cI, 30, .inl HI)), ((ad 16), .inl (cZ, 30, .inl (fl cnt 1 KP))), ((ad 17), .inl (cI, 11, .inl NB))] → va_S A H0 H locs → lv_has ls 2 [(0, .ref (ad 12))] → W p l e (rmH 1 0 0) s m args below meth c H locs 0 0 Q (F0 m 23 ls []))
    : ∀ (q : Nat) (i : Nat), i + q = cnt → ∀ (H : Heap) (locs : List Loc) (ls : Array Slot), va_P (dC, dI) classes [((ad 12), .inr (3, [.ref (ad 13), .ref (ad 14), .ref (ad 15), .ref (ad 16), .ref (ad 17), .int (nI unk), .int (nI cnt), .int sv, .int sk, .int ck])), ((ad 13), .inl (cI, 30, .inl LO)), ((ad 14), .inl (cI, 30, .inl ST)), ((ad 15), .inl (cI, 30, .inl HI)), ((ad 16), .inl (cZ, 30, .inl (fl i 1 KP))), ((ad 17), .inl (cI, 11, .inl NB))] H → va_D A [((ad 12), .inr (3, [.ref (ad 13), .ref (ad 14), .ref (ad 15), .ref (ad 16), .ref (ad 17), .int (nI unk), .int (nI cnt), .int sv, .int sk, .int ck])), ((ad 13), .inl (cI, 30, .inl LO)), ((ad 14), .inl (cI, 30, .inl ST)), ((ad 15), .inl (cI, 30, .inl HI)), ((ad 16), .inl (cZ, 30, .inl (fl i 1 KP))), ((ad 17), .inl (cI, 11, .inl NB))] → va_S A H0 H locs → lv_has ls 2 [(0, .ref (ad 12)), (1, .int (nI i))] → W p l e (rmH 1 0 0) s m args below meth c H locs 0 0 Q (F0 m 2 ls []) := by
  obtain ⟨hx, hb, hr, hml, hown, htb, hlocks⟩ := id C0
  intro q
  induction q with
  | zero =>
    intro i hi H locs ls hP hD hS hl
    refine lv_iload_n hx hb d_Nd_keepAll_2 rfl (lv_at hl 1 rfl) ?_
    refine lv_aload_n hx hb d_Nd_keepAll_3 rfl (lv_at hl 0 rfl) ?_
    refine va_get (D := (dC, dI)) (ci := 3) (v := .int (nI cnt)) (C := R_Nd) (T := F_Nd) (N := 10) hx hb htb ul_Nd hown hK hP 0 rfl rfl 6 (by decide) (htb _ mw_84) (fun _ h9 => h9) rfl d_Nd_keepAll_4 ?_
    refine lv_icmp_ge (tgt := 23) hx hb d_Nd_keepAll_7 (by decide) (fun c_7 => ?_) (fun c_7 => ?_)
    · exact KB H locs ls (by rw [show fl cnt 1 KP = fl i 1 KP from by rw [show cnt = i by omega]]; exact hP) (by rw [show fl cnt 1 KP = fl i 1 KP from by rw [show cnt = i by omega]]; exact hD) hS (lv_sub hl [0] rfl)
    · exact absurd ((nI_leI (a := cnt) (b := i) (by omega) (by omega)).mpr (by omega)) c_7
  | succ q ih =>
    intro i hi H locs ls hP hD hS hl
    refine lv_iload_n hx hb d_Nd_keepAll_2 rfl (lv_at hl 1 rfl) ?_
    refine lv_aload_n hx hb d_Nd_keepAll_3 rfl (lv_at hl 0 rfl) ?_
    refine va_get (D := (dC, dI)) (ci := 3) (v := .int (nI cnt)) (C := R_Nd) (T := F_Nd) (N := 10) hx hb htb ul_Nd hown hK hP 0 rfl rfl 6 (by decide) (htb _ mw_84) (fun _ h9 => h9) rfl d_Nd_keepAll_4 ?_
    refine lv_icmp_ge (tgt := 23) hx hb d_Nd_keepAll_7 (by decide) (fun c_7 => ?_) (fun c_7 => ?_)
    · exact absurd ((nI_leI (a := cnt) (b := i) (by omega) (by omega)).mp c_7) (by omega)
    · refine lv_aload_n hx hb d_Nd_keepAll_10 rfl (lv_at hl 0 rfl) ?_
      refine va_get (D := (dC, dI)) (ci := 3) (v := .ref (ad 16)) (C := R_Nd) (T := F_Nd) (N := 10) hx hb htb ul_Nd hown hK hP 0 rfl rfl 3 (by decide) (htb _ mw_81) (fun _ h9 => h9) rfl d_Nd_keepAll_11 ?_
      refine lv_iload_n hx hb d_Nd_keepAll_14 rfl (lv_at hl 1 rfl) ?_
      refine lv_iconst (v := 1) hx hb d_Nd_keepAll_15 (by decide) ?_
      refine ry_zast (D := (dC, dI)) (j := i) hx hb hK hP hD hS 4 2 rfl rfl rfl (by omega) (by decide) d_Nd_keepAll_16 (fun H locs hP hD hS => ?_)
      have hP : va_P (dC, dI) classes [((ad 12), .inr (3, [.ref (ad 13), .ref (ad 14), .ref (ad 15), .ref (ad 16), .ref (ad 17), .int (nI unk), .int (nI cnt), .int sv, .int sk, .int ck])), ((ad 13), .inl (cI, 30, .inl LO)), ((ad 14), .inl (cI, 30, .inl ST)), ((ad 15), .inl (cI, 30, .inl HI)), ((ad 16), .inl (cZ, 30, .inl (upd (fl i 1 KP) i 1))), ((ad 17), .inl (cI, 11, .inl NB))] H := hP
      have hD : va_D A [((ad 12), .inr (3, [.ref (ad 13), .ref (ad 14), .ref (ad 15), .ref (ad 16), .ref (ad 17), .int (nI unk), .int (nI cnt), .int sv, .int sk, .int ck])), ((ad 13), .inl (cI, 30, .inl LO)), ((ad 14), .inl (cI, 30, .inl ST)), ((ad 15), .inl (cI, 30, .inl HI)), ((ad 16), .inl (cZ, 30, .inl (upd (fl i 1 KP) i 1))), ((ad 17), .inl (cI, 11, .inl NB))] := hD
      refine lv_iinc (v := (nI (i + 1))) (lv' := [(1, .int (nI (i + 1))), (0, .ref (ad 12))]) hx hb d_Nd_keepAll_17 hl (k := 1) rfl (nI_1 _) (by decide) rfl (fun ls hl => ?_)
      refine lv_goto (tgt := 2) hx hb d_Nd_keepAll_20 (by decide) ?_
      exact ih (i + 1) (by omega) H locs ls (by rw [← fl_s]; exact hP) (by rw [← fl_s]; exact hD) hS (lv_sub hl [1, 0] rfl)

set_option maxHeartbeats 4000000 in
set_option maxRecDepth 100000 in
theorem c_Nd_keepAll (l : Launch) (dC : Nat → ClassId) (dI : Nat → Nat → Nat) (cI cL cZ : ClassId) (ad : Nat → Nat) (LO ST HI KP NB : Nat → Int32) (unk cnt : Nat) (sv sk ck : Int32) (hunk : unk ≤ 10) (hcnt : cnt ≤ 30)  (sz : Nat) : Met l y_Nd_keepAll (cw_Nd_keepAll :: tb) (rmH 1 0 0) (va_Pc [.ref (ad 12)] (wy_P (dC, dI) classes (wNd cI cZ ad LO ST HI KP NB unk cnt sv sk ck) (tyI cI cL cZ) sz)) (wy_Q ry_v (fun _ (u : Unit) => True) (wy_B (dC, dI) classes (tyI cI cL cZ) (va_A (wNd cI cZ ad LO ST HI KP NB unk cnt sv sk ck) sz) (fun u : Unit => (wNd cI cZ ad LO ST HI (fl cnt 1 KP) NB unk cnt sv sk ck))) (va_A (wNd cI cZ ad LO ST HI KP NB unk cnt sv sk ck) sz)) 0 0 (va_A (wNd cI cZ ad LO ST HI KP NB unk cnt sv sk ck) sz) := by
  refine Met.ofW (cc := b_Nd_keepAll) (maxL := 2) (ret := none) (by decide +kernel) rfl ?_
  intro p e s m args below meth c s₁ B hml0 hv
  have C0 := cx_of B hml0 rfl
  obtain ⟨hx, hb, hr, hml, hown, htb, hlocks⟩ := id C0
  obtain ⟨rfl, hsz, hP, hK, hD0⟩ := hv
  subst hsz
  have hD := hD0.self (sz := s.heap.size)
  generalize hAe : va_A (wNd cI cZ ad LO ST HI KP NB unk cnt sv sk ck) s.heap.size = A at hD ⊢
  have hA : ∀ q : Nat, s.heap.size ≤ q → A q := fun q h => by rw [← hAe]; exact Or.inr h
  have hS : va_S A s.heap s.heap [] := va_S.rf
  have hl := lv_entry ([.ref (ad 12)]) (n := 2) (Nat.le_of_ble_eq_true rfl)
  rw [lg_entry_eq]
  generalize (lg_sl ([.ref (ad 12)]) ++ List.replicate (2 - (lg_sl ([.ref (ad 12)])).length) Slot.unset).toArray = ls at hl ⊢
  have hl : lv_has ls 2 [(0, .ref (ad 12))] := hl
  have hP : va_P (dC, dI) classes [((ad 12), .inr (3, [.ref (ad 13), .ref (ad 14), .ref (ad 15), .ref (ad 16), .ref (ad 17), .int (nI unk), .int (nI cnt), .int sv, .int sk, .int ck])), ((ad 13), .inl (cI, 30, .inl LO)), ((ad 14), .inl (cI, 30, .inl ST)), ((ad 15), .inl (cI, 30, .inl HI)), ((ad 16), .inl (cZ, 30, .inl KP)), ((ad 17), .inl (cI, 11, .inl NB))] s.heap := hP
  have hD : va_D A [((ad 12), .inr (3, [.ref (ad 13), .ref (ad 14), .ref (ad 15), .ref (ad 16), .ref (ad 17), .int (nI unk), .int (nI cnt), .int sv, .int sk, .int ck])), ((ad 13), .inl (cI, 30, .inl LO)), ((ad 14), .inl (cI, 30, .inl ST)), ((ad 15), .inl (cI, 30, .inl HI)), ((ad 16), .inl (cZ, 30, .inl KP)), ((ad 17), .inl (cI, 11, .inl NB))] := hD
  have hA0 := hA
  refine lv_iconst (v := 0) hx hb d_Nd_keepAll_0 (by decide) ?_
  refine lv_istore_n (lv' := [(1, .int 0), (0, .ref (ad 12))]) hx hb d_Nd_keepAll_1 rfl hl (by decide) rfl (fun ls hl => ?_)
  refine lp_Nd_keepAll l C0 dC dI cI cL cZ ad LO ST HI KP NB unk cnt sv sk ck hunk hcnt hK hA (fun H locs ls hP hD hS hl => ?_) cnt 0 (by omega) s.heap [] ls (by rw [fl_0]; exact hP) (by rw [fl_0]; exact hD) hS (lv_sub hl [1, 0] rfl)
  exact W.vret hx hb hr (fun t ht hW => ⟨⟨(), (), rfl, trivial, by rw [ht]; exact hP, va_K.moved hW.alike hK, hD⟩, hS.F ht⟩) hS.2.2 d_Nd_keepAll_23
end
section
set_option maxHeartbeats 4000000 in
set_option maxRecDepth 100000 in
theorem lp_Nd_raiseNumbers {p : Program} (l : Launch) {e : Env} {s : State} {m : MethodId} {args : Array Value} {below : List Frame} {meth : Method} {c : Code} {Q : State → Prop} {A : Nat → Prop} {H0 : Heap} (C0 : cx p s m args meth c b_Nd_raiseNumbers 4 (some .boolean) R_Nd) (dC : Nat → ClassId) (dI : Nat → Nat → Nat) (cI cL cZ : ClassId) (ad : Nat → Nat) (LO ST HI KP : Nat → Int32) (unk cnt : Nat) (sv sk ck : Int32) (hunk : unk ≤ 10) (hcnt : cnt ≤ 30) (lo hi : Nat → Nat) (hlo : ∀ j, j < cnt → LO j = nI (lo j) ∧ lo j < 11) (hhi : ∀ j, j < cnt → HI j = nI (hi j) ∧ hi j < 11) (RR : (Nat → Int32) × Int32) (hK : va_K (dC, dI) classes (tyI cI cL cZ) s) (hA : ∀ q : Nat, H0.size ≤ q → A q) 
    (KB : ∀ (NB : Nat → Int32) (b : Int32) (H : Heap) (locs : List Loc) (ls : Array Slot), RR = (NB, b) → va_P (dC, dI) classes [((ad 12), .inr (3, [.ref (ad 13), .ref (ad 14), .ref (ad 15), .ref (ad 16), .ref (ad 17), .int (nI unk), .int (nI cnt), .int sv, .int sk, .int ck])), ((ad 13), .inl (cI, 30, .inl LO)), ((ad 14), .inl (cI, 30, .inl ST)), ((ad 15), .inl (cI, 30, .inl HI)), ((ad 16), .inl (cZ, 30, .inl KP)), ((ad 17), .inl (cI, 11, .inl NB))] H → va_D A [((ad 12), .inr (3, [.ref (ad 13), .ref (ad 14), .ref (ad 15), .ref (ad 16), .ref (ad 17), .int (nI unk), .int (nI cnt), .int sv, .int sk, .int ck])), ((ad 13), .inl (cI, 30, .inl LO)), ((ad 14), .inl (cI, 30, .inl ST)), ((ad 15), .inl (cI, 30, .inl HI)), ((ad 16), .inl (cZ, 30, .inl KP)), ((ad 17), .inl (cI, 11, .inl NB))] → va_S A H0 H locs → lv_has ls 4 [(0, .ref (ad 12)), (1, .int b)] → W p l e (rmH 1 0 0) s m args below meth c H locs 0 0 Q (F0 m 75 ls []))
    : ∀ (q : Nat) (i : Nat) (NB : Nat → Int32) (b : Int32), i + q = cnt ∧ RR = ps lo hi ST KP i q NB b → ∀ (H : Heap) (locs : List Loc) (ls : Array Slot), va_P (dC, dI) classes [((ad 12), .inr (3, [.ref (ad 13), .ref (ad 14), .ref (ad 15), .ref (ad 16), .ref (ad 17), .int (nI unk), .int (nI cnt), .int sv, .int sk, .int ck])), ((ad 13), .inl (cI, 30, .inl LO)), ((ad 14), .inl (cI, 30, .inl ST)), ((ad 15), .inl (cI, 30, .inl HI)), ((ad 16), .inl (cZ, 30, .inl KP)), ((ad 17), .inl (cI, 11, .inl NB))] H → va_D A [((ad 12), .inr (3, [.ref (ad 13), .ref (ad 14), .ref (ad 15), .ref (ad 16), .ref (ad 17), .int (nI unk), .int (nI cnt), .int sv, .int sk, .int ck])), ((ad 13), .inl (cI, 30, .inl LO)), ((ad 14), .inl (cI, 30, .inl ST)), ((ad 15), .inl (cI, 30, .inl HI)), ((ad 16), .inl (cZ, 30, .inl KP)), ((ad 17), .inl (cI, 11, .inl NB))] → va_S A H0 H locs → lv_has ls 4 [(0, .ref (ad 12)), (1, .int b), (2, .int (nI i))] → W p l e (rmH 1 0 0) s m args below meth c H locs 0 0 Q (F0 m 4 ls []) := by
  obtain ⟨hx, hb, hr, hml, hown, htb, hlocks⟩ := id C0
  intro q
  induction q with
  | zero =>
    intro i NB b hiV H locs ls hP hD hS hl
    obtain ⟨hi0, hR⟩ := hiV
    refine lv_iload_n hx hb d_Nd_raiseNumbers_4 rfl (lv_at hl 2 rfl) ?_
    refine lv_aload_n hx hb d_Nd_raiseNumbers_5 rfl (lv_at hl 0 rfl) ?_
    refine va_get (D := (dC, dI)) (ci := 3) (v := .int (nI cnt)) (C := R_Nd) (T := F_Nd) (N := 10) hx hb htb ul_Nd hown hK hP 0 rfl rfl 6 (by decide) (htb _ mw_84) (fun _ h9 => h9) rfl d_Nd_raiseNumbers_6 ?_
    refine lv_icmp_ge (tgt := 75) hx hb d_Nd_raiseNumbers_9 (by decide) (fun c_9 => ?_) (fun c_9 => ?_)
    · exact KB NB b H locs ls hR hP hD hS (lv_sub hl [0, 1] rfl)
    · exact absurd ((nI_leI (a := cnt) (b := i) (by omega) (by omega)).mpr (by omega)) c_9
  | succ q ih =>
    intro i NB b hiV H locs ls hP hD hS hl
    obtain ⟨hi0, hR⟩ := hiV
    refine lv_iload_n hx hb d_Nd_raiseNumbers_4 rfl (lv_at hl 2 rfl) ?_
    refine lv_aload_n hx hb d_Nd_raiseNumbers_5 rfl (lv_at hl 0 rfl) ?_
    refine va_get (D := (dC, dI)) (ci := 3) (v := .int (nI cnt)) (C := R_Nd) (T := F_Nd) (N := 10) hx hb htb ul_Nd hown hK hP 0 rfl rfl 6 (by decide) (htb _ mw_84) (fun _ h9 => h9) rfl d_Nd_raiseNumbers_6 ?_
    refine lv_icmp_ge (tgt := 75) hx hb d_Nd_raiseNumbers_9 (by decide) (fun c_9 => ?_) (fun c_9 => ?_)
    · exact absurd ((nI_leI (a := cnt) (b := i) (by omega) (by omega)).mp c_9) (by omega)
    · obtain ⟨el, hl1⟩ := hlo i (by omega)
      obtain ⟨eh, hh1⟩ := hhi i (by omega)
      refine lv_aload_n hx hb d_Nd_raiseNumbers_12 rfl (lv_at hl 0 rfl) ?_
      refine va_get (D := (dC, dI)) (ci := 3) (v := .ref (ad 17)) (C := R_Nd) (T := F_Nd) (N := 10) hx hb htb ul_Nd hown hK hP 0 rfl rfl 4 (by decide) (htb _ mw_82) (fun _ h9 => h9) rfl d_Nd_raiseNumbers_13 ?_
      refine lv_aload_n hx hb d_Nd_raiseNumbers_16 rfl (lv_at hl 0 rfl) ?_
      refine va_get (D := (dC, dI)) (ci := 3) (v := .ref (ad 13)) (C := R_Nd) (T := F_Nd) (N := 10) hx hb htb ul_Nd hown hK hP 0 rfl rfl 0 (by decide) (htb _ mw_78) (fun _ h9 => h9) rfl d_Nd_raiseNumbers_17 ?_
      refine lv_iload_n hx hb d_Nd_raiseNumbers_20 rfl (lv_at hl 2 rfl) ?_
      refine ry_iald (D := (dC, dI)) (j := i) hx hb hK hP 1 0 rfl rfl (by omega) (by decide) d_Nd_raiseNumbers_21 ?_
      rw [el]
      refine ry_iald (D := (dC, dI)) (j := lo i) hx hb hK hP 5 0 rfl rfl (by omega) (by decide) d_Nd_raiseNumbers_22 ?_
      refine lv_aload_n hx hb d_Nd_raiseNumbers_23 rfl (lv_at hl 0 rfl) ?_
      refine va_get (D := (dC, dI)) (ci := 3) (v := .ref (ad 14)) (C := R_Nd) (T := F_Nd) (N := 10) hx hb htb ul_Nd hown hK hP 0 rfl rfl 1 (by decide) (htb _ mw_79) (fun _ h9 => h9) rfl d_Nd_raiseNumbers_24 ?_
      refine lv_iload_n hx hb d_Nd_raiseNumbers_27 rfl (lv_at hl 2 rfl) ?_
      refine ry_iald (D := (dC, dI)) (j := i) hx hb hK hP 2 0 rfl rfl (by omega) (by decide) d_Nd_raiseNumbers_28 ?_
      refine lv_iadd hx hb d_Nd_raiseNumbers_29 ?_
      refine lv_istore_n (lv' := [(3, .int ((NB (lo i)) + (ST i))), (0, .ref (ad 12)), (1, .int b), (2, .int (nI i))]) hx hb d_Nd_raiseNumbers_30 rfl hl (by decide) rfl (fun ls hl => ?_)
      refine lv_aload_n hx hb d_Nd_raiseNumbers_31 rfl (lv_at hl 1 rfl) ?_
      refine va_get (D := (dC, dI)) (ci := 3) (v := .ref (ad 16)) (C := R_Nd) (T := F_Nd) (N := 10) hx hb htb ul_Nd hown hK hP 0 rfl rfl 3 (by decide) (htb _ mw_81) (fun _ h9 => h9) rfl d_Nd_raiseNumbers_32 ?_
      refine lv_iload_n hx hb d_Nd_raiseNumbers_35 rfl (lv_at hl 3 rfl) ?_
      refine ry_zald (D := (dC, dI)) (j := i) hx hb hK hP 4 2 rfl rfl (by omega) (by decide) d_Nd_raiseNumbers_36 ?_
      refine lv_if_eq (tgt := 69) hx hb d_Nd_raiseNumbers_37 (by decide) (fun c_37 => ?_) (fun c_37 => ?_)
      · refine lv_iinc (v := (nI (i + 1))) (lv' := [(2, .int (nI (i + 1))), (3, .int ((NB (lo i)) + (ST i))), (0, .ref (ad 12)), (1, .int b)]) hx hb d_Nd_raiseNumbers_69 hl (k := 3) rfl (nI_1 _) (by decide) rfl (fun ls hl => ?_)
        refine lv_goto (tgt := 4) hx hb d_Nd_raiseNumbers_72 (by decide) ?_
        exact ih (i + 1) NB b ⟨by omega, by rw [hR, ps_0 c_37]⟩ H locs ls hP hD hS (lv_sub hl [2, 3, 0] rfl)
      · refine lv_iload_n hx hb d_Nd_raiseNumbers_40 rfl (lv_at hl 0 rfl) ?_
        refine lv_aload_n hx hb d_Nd_raiseNumbers_41 rfl (lv_at hl 1 rfl) ?_
        refine va_get (D := (dC, dI)) (ci := 3) (v := .ref (ad 17)) (C := R_Nd) (T := F_Nd) (N := 10) hx hb htb ul_Nd hown hK hP 0 rfl rfl 4 (by decide) (htb _ mw_82) (fun _ h9 => h9) rfl d_Nd_raiseNumbers_42 ?_
        refine lv_aload_n hx hb d_Nd_raiseNumbers_45 rfl (lv_at hl 1 rfl) ?_
        refine va_get (D := (dC, dI)) (ci := 3) (v := .ref (ad 15)) (C := R_Nd) (T := F_Nd) (N := 10) hx hb htb ul_Nd hown hK hP 0 rfl rfl 2 (by decide) (htb _ mw_80) (fun _ h9 => h9) rfl d_Nd_raiseNumbers_46 ?_
        refine lv_iload_n hx hb d_Nd_raiseNumbers_49 rfl (lv_at hl 3 rfl) ?_
        refine ry_iald (D := (dC, dI)) (j := i) hx hb hK hP 3 0 rfl rfl (by omega) (by decide) d_Nd_raiseNumbers_50 ?_
        rw [eh]
        refine ry_iald (D := (dC, dI)) (j := hi i) hx hb hK hP 5 0 rfl rfl (by omega) (by decide) d_Nd_raiseNumbers_51 ?_
        refine lv_icmp_le (tgt := 69) hx hb d_Nd_raiseNumbers_52 (by decide) (fun c_52 => ?_) (fun c_52 => ?_)
        · refine lv_iinc (v := (nI (i + 1))) (lv' := [(2, .int (nI (i + 1))), (3, .int ((NB (lo i)) + (ST i))), (0, .ref (ad 12)), (1, .int b)]) hx hb d_Nd_raiseNumbers_69 hl (k := 3) rfl (nI_1 _) (by decide) rfl (fun ls hl => ?_)
          refine lv_goto (tgt := 4) hx hb d_Nd_raiseNumbers_72 (by decide) ?_
          exact ih (i + 1) NB b ⟨by omega, by rw [hR, ps_1 c_37 c_52]⟩ H locs ls hP hD hS (lv_sub hl [2, 3, 0] rfl)
        · refine lv_aload_n hx hb d_Nd_raiseNumbers_55 rfl (lv_at hl 1 rfl) ?_
          refine va_get (D := (dC, dI)) (ci := 3) (v := .ref (ad 17)) (C := R_Nd) (T := F_Nd) (N := 10) hx hb htb ul_Nd hown hK hP 0 rfl rfl 4 (by decide) (htb _ mw_82) (fun _ h9 => h9) rfl d_Nd_raiseNumbers_56 ?_
          refine lv_aload_n hx hb d_Nd_raiseNumbers_59 rfl (lv_at hl 1 rfl) ?_
          refine va_get (D := (dC, dI)) (ci := 3) (v := .ref (ad 15)) (C := R_Nd) (T := F_Nd) (N := 10) hx hb htb ul_Nd hown hK hP 0 rfl rfl 2 (by decide) (htb _ mw_80) (fun _ h9 => h9) rfl d_Nd_raiseNumbers_60 ?_
          refine lv_iload_n hx hb d_Nd_raiseNumbers_63 rfl (lv_at hl 3 rfl) ?_
          refine ry_iald (D := (dC, dI)) (j := i) hx hb hK hP 3 0 rfl rfl (by omega) (by decide) d_Nd_raiseNumbers_64 ?_
          rw [eh]
          refine lv_iload_n hx hb d_Nd_raiseNumbers_65 rfl (lv_at hl 0 rfl) ?_
          refine ry_iast (D := (dC, dI)) (j := hi i) hx hb hK hP hD hS 5 0 rfl rfl (by omega) (by decide) d_Nd_raiseNumbers_66 (fun H locs hP hD hS => ?_)
          have hP : va_P (dC, dI) classes [((ad 12), .inr (3, [.ref (ad 13), .ref (ad 14), .ref (ad 15), .ref (ad 16), .ref (ad 17), .int (nI unk), .int (nI cnt), .int sv, .int sk, .int ck])), ((ad 13), .inl (cI, 30, .inl LO)), ((ad 14), .inl (cI, 30, .inl ST)), ((ad 15), .inl (cI, 30, .inl HI)), ((ad 16), .inl (cZ, 30, .inl KP)), ((ad 17), .inl (cI, 11, .inl (upd NB (hi i) (((NB (lo i)) + (ST i))))))] H := hP
          have hD : va_D A [((ad 12), .inr (3, [.ref (ad 13), .ref (ad 14), .ref (ad 15), .ref (ad 16), .ref (ad 17), .int (nI unk), .int (nI cnt), .int sv, .int sk, .int ck])), ((ad 13), .inl (cI, 30, .inl LO)), ((ad 14), .inl (cI, 30, .inl ST)), ((ad 15), .inl (cI, 30, .inl HI)), ((ad 16), .inl (cZ, 30, .inl KP)), ((ad 17), .inl (cI, 11, .inl (upd NB (hi i) (((NB (lo i)) + (ST i))))))] := hD
          refine lv_iconst (v := 1) hx hb d_Nd_raiseNumbers_67 (by decide) ?_
          refine lv_istore_n (lv' := [(1, .int 1), (3, .int ((NB (lo i)) + (ST i))), (0, .ref (ad 12)), (2, .int (nI i))]) hx hb d_Nd_raiseNumbers_68 rfl hl (by decide) rfl (fun ls hl => ?_)
          refine lv_iinc (v := (nI (i + 1))) (lv' := [(2, .int (nI (i + 1))), (1, .int 1), (3, .int ((NB (lo i)) + (ST i))), (0, .ref (ad 12))]) hx hb d_Nd_raiseNumbers_69 hl (k := 3) rfl (nI_1 _) (by decide) rfl (fun ls hl => ?_)
          refine lv_goto (tgt := 4) hx hb d_Nd_raiseNumbers_72 (by decide) ?_
          exact ih (i + 1) (upd NB (hi i) (NB (lo i) + ST i)) 1 ⟨by omega, by rw [hR, ps_2 c_37 c_52]⟩ H locs ls hP hD hS (lv_sub hl [3, 1, 0] rfl)

set_option maxHeartbeats 4000000 in
set_option maxRecDepth 100000 in
theorem c_Nd_raiseNumbers (l : Launch) (dC : Nat → ClassId) (dI : Nat → Nat → Nat) (cI cL cZ : ClassId) (ad : Nat → Nat) (LO ST HI KP NB : Nat → Int32) (unk cnt : Nat) (sv sk ck : Int32) (hunk : unk ≤ 10) (hcnt : cnt ≤ 30) (lo hi : Nat → Nat) (hlo : ∀ j, j < cnt → LO j = nI (lo j) ∧ lo j < 11) (hhi : ∀ j, j < cnt → HI j = nI (hi j) ∧ hi j < 11) (sz : Nat) : Met l y_Nd_raiseNumbers (cw_Nd_raiseNumbers :: tb) (rmH 1 0 0) (va_Pc [.ref (ad 12)] (wy_P (dC, dI) classes (wNd cI cZ ad LO ST HI KP NB unk cnt sv sk ck) (tyI cI cL cZ) sz)) (wy_Q ry_i (fun r (u : Nat → Int32) => r = (ps lo hi ST KP 0 cnt NB 0).2 ∧ u = (ps lo hi ST KP 0 cnt NB 0).1) (wy_B (dC, dI) classes (tyI cI cL cZ) (va_A (wNd cI cZ ad LO ST HI KP NB unk cnt sv sk ck) sz) (fun u : Nat → Int32 => (wNd cI cZ ad LO ST HI KP u unk cnt sv sk ck))) (va_A (wNd cI cZ ad LO ST HI KP NB unk cnt sv sk ck) sz)) 0 0 (va_A (wNd cI cZ ad LO ST HI KP NB unk cnt sv sk ck) sz) := by
  refine Met.ofW (cc := b_Nd_raiseNumbers) (maxL := 4) (ret := (some .boolean)) (by decide +kernel) rfl ?_
  intro p e s m args below meth c s₁ B hml0 hv
  have C0 := cx_of B hml0 rfl
  obtain ⟨hx, hb, hr, hml, hown, htb, hlocks⟩ := id C0
  obtain ⟨rfl, hsz, hP, hK, hD0⟩ := hv
  subst hsz
  have hD := hD0.self (sz := s.heap.size)
  generalize hAe : va_A (wNd cI cZ ad LO ST HI KP NB unk cnt sv sk ck) s.heap.size = A at hD ⊢
  have hA : ∀ q : Nat, s.heap.size ≤ q → A q := fun q h => by rw [← hAe]; exact Or.inr h
  have hS : va_S A s.heap s.heap [] := va_S.rf
  have hl := lv_entry ([.ref (ad 12)]) (n := 4) (Nat.le_of_ble_eq_true rfl)
  rw [lg_entry_eq]
  generalize (lg_sl ([.ref (ad 12)]) ++ List.replicate (4 - (lg_sl ([.ref (ad 12)])).length) Slot.unset).toArray = ls at hl ⊢
  have hl : lv_has ls 4 [(0, .ref (ad 12))] := hl
  have hP : va_P (dC, dI) classes [((ad 12), .inr (3, [.ref (ad 13), .ref (ad 14), .ref (ad 15), .ref (ad 16), .ref (ad 17), .int (nI unk), .int (nI cnt), .int sv, .int sk, .int ck])), ((ad 13), .inl (cI, 30, .inl LO)), ((ad 14), .inl (cI, 30, .inl ST)), ((ad 15), .inl (cI, 30, .inl HI)), ((ad 16), .inl (cZ, 30, .inl KP)), ((ad 17), .inl (cI, 11, .inl NB))] s.heap := hP
  have hD : va_D A [((ad 12), .inr (3, [.ref (ad 13), .ref (ad 14), .ref (ad 15), .ref (ad 16), .ref (ad 17), .int (nI unk), .int (nI cnt), .int sv, .int sk, .int ck])), ((ad 13), .inl (cI, 30, .inl LO)), ((ad 14), .inl (cI, 30, .inl ST)), ((ad 15), .inl (cI, 30, .inl HI)), ((ad 16), .inl (cZ, 30, .inl KP)), ((ad 17), .inl (cI, 11, .inl NB))] := hD
  have hA0 := hA
  refine lv_iconst (v := 0) hx hb d_Nd_raiseNumbers_0 (by decide) ?_
  refine lv_istore_n (lv' := [(1, .int 0), (0, .ref (ad 12))]) hx hb d_Nd_raiseNumbers_1 rfl hl (by decide) rfl (fun ls hl => ?_)
  refine lv_iconst (v := 0) hx hb d_Nd_raiseNumbers_2 (by decide) ?_
  refine lv_istore_n (lv' := [(2, .int 0), (1, .int 0), (0, .ref (ad 12))]) hx hb d_Nd_raiseNumbers_3 rfl hl (by decide) rfl (fun ls hl => ?_)
  refine lp_Nd_raiseNumbers l C0 dC dI cI cL cZ ad LO ST HI KP unk cnt sv sk ck hunk hcnt lo hi hlo hhi (ps lo hi ST KP 0 cnt NB 0) hK hA (fun NB9 b9 H locs ls hR hP hD hS hl => ?_) cnt 0 NB 0 ⟨by omega, rfl⟩ s.heap [] ls hP hD hS (lv_sub hl [2, 1, 0] rfl)
  refine lv_iload_n hx hb d_Nd_raiseNumbers_75 rfl (lv_at hl 1 rfl) ?_
  exact W.zret (v := b9) hx hb hr (bn (by have := ps_b (lo := lo) (hi := hi) (ST := ST) (KP := KP) cnt 0 NB 0 (Or.inl rfl); rw [hR] at this; exact this)) (fun t ht hW => ⟨⟨b9, NB9, rfl, ⟨by rw [hR], by rw [hR]⟩, by rw [ht]; exact hP, va_K.moved hW.alike hK, hD⟩, hS.F ht⟩) hS.2.2 d_Nd_raiseNumbers_76
end
section
section WYS
variable {p : Program} {l : Launch} {e : Env} {R : Room} {s : State} {m : MethodId} {args : Array Value} {below : List Frame} {meth : Method} {c : Code} {H : Heap} {locs : List Loc} {cells slots : Nat} {Q : State → Prop}
variable {cc : ByteArray} {pc : Nat} {ls : Array Slot} {rest : List Value} {D : va_G} {cl : List vw_C} {A : Nat → Prop} {tys : List (ClassId × FieldType)} {ws wc wr : va_W} {H0 : Heap}
variable {ρ σ : Type} {rv : ρ → Option Value} {post : ρ → σ → Prop} {wd : σ → va_W} {y : MethodName} {bytes : ByteArray} {maxL nL n index mc ms : Nat} {ret : Option FieldType} {rm : Room} {own : String} {As st0 : List Value}
theorem wy_callS (S : CallFix p m c cc nL s args tb own) (hM : Met l y (Cond.code y bytes maxL ret :: tb) rm (va_Pc As (wy_P D cl wc tys H.size)) (wy_Q rv post (wy_B D cl tys (va_A wc H.size) wd) (va_A wc H.size)) mc ms (va_A wc H.size)) (hG : GoodIn tb (va_wsS own index y (Cond.code y bytes maxL ret :: tb))) (hrc : rm.cells = mc) (hrs : rm.slots = ms)
    (hd : y.cls ≠ "java/lang/invoke/MethodHandle" ∧ y.cls ≠ "java/lang/invoke/VarHandle" ∧ (parseMethodDescriptor y.desc).map (fun d => d.parameters.length) = some n) (hRm : rm.frames + 1 ≤ R.frames ∧ 8 + (maxL + 11) + rm.locals ≤ R.locals)
    (hP : va_P D cl ws H) (hD : va_D A ws) (hS : va_S A H0 H locs) (hA : ∀ q, H0.size ≤ q → A q) (hK : va_K D cl tys s)
    (isC isR : List Nat) (hC : isC.map (fun i => ws[i]?) = wc.map some) (hR : isR.map (fun i => ws[i]?) = wr.map some) (hnd : va_nd isR = true) (hdis : ∀ i ∈ isR, i ∉ isC) (hPc : va_P D cl wc H) (hDc : va_D (fun _ => True) wc)
    (hn : As.length = n) (hsize : ls.size = nL) (hstack : st0 = As.reverse ++ rest) (hW : (rest.map fun v => v.category).sum ≤ 8) (hdg : decode cc pc = .ok (.invokestatic index, 3)) (hf : cells + mc ≤ R.cells ∧ slots + ms ≤ R.slots)
    (kk : ∀ (r : ρ) (u : σ) (H1 : Heap) (locs1 : List Loc), post r u → va_P D cl (wr ++ wd u) H1 → va_D A (wr ++ wd u) → va_S A H0 H1 locs1 → W p l e R s m args below meth c H1 locs1 (cells + mc) (slots + ms) Q (F0 m (pc + 3) ls ((rv r).toList ++ rest))) : W p l e R s m args below meth c H locs cells slots Q (F0 m pc ls st0) :=
  wy_call (va_runS S hM (va_cwS n S.2.2.2.2 hG rfl hrc hrs hd hRm) ⟨wy_blind, fun U hU hW => ⟨rfl, by rw [hU], by rw [hU]; exact hPc, va_K.moved hW.alike hK, hDc⟩⟩ rfl hn hsize hstack (lv_room hW) hdg hf) hP hD hS hA isC isR hC hR hnd hdis kk
end WYS
end
section
theorem d_Ar_fill_0 : decode b_Ar_fill 0 = .ok (.iconst 0, 1) := by decide +kernel
theorem d_Ar_fill_1 : decode b_Ar_fill 1 = .ok (.istore_n 2, 1) := by decide +kernel
theorem d_Ar_fill_2 : decode b_Ar_fill 2 = .ok (.aload_n 0, 1) := by decide +kernel
theorem d_Ar_fill_3 : decode b_Ar_fill 3 = .ok (.arraylength, 1) := by decide +kernel
theorem d_Ar_fill_4 : decode b_Ar_fill 4 = .ok (.istore_n 3, 1) := by decide +kernel
theorem d_Ar_fill_5 : decode b_Ar_fill 5 = .ok (.iload_n 2, 1) := by decide +kernel
theorem d_Ar_fill_6 : decode b_Ar_fill 6 = .ok (.iload_n 3, 1) := by decide +kernel
theorem d_Ar_fill_7 : decode b_Ar_fill 7 = .ok (.if_icmp .ge 13, 3) := by decide +kernel
theorem d_Ar_fill_10 : decode b_Ar_fill 10 = .ok (.aload_n 0, 1) := by decide +kernel
theorem d_Ar_fill_11 : decode b_Ar_fill 11 = .ok (.iload_n 2, 1) := by decide +kernel
theorem d_Ar_fill_12 : decode b_Ar_fill 12 = .ok (.iload_n 1, 1) := by decide +kernel
theorem d_Ar_fill_13 : decode b_Ar_fill 13 = .ok (.iastore, 1) := by decide +kernel
theorem d_Ar_fill_14 : decode b_Ar_fill 14 = .ok (.iinc 2 1, 3) := by decide +kernel
theorem d_Ar_fill_17 : decode b_Ar_fill 17 = .ok (.goto (-12), 3) := by decide +kernel
theorem d_Ar_fill_20 : decode b_Ar_fill 20 = .ok (.return_, 1) := by decide +kernel

set_option maxHeartbeats 4000000 in
set_option maxRecDepth 100000 in
theorem lp_Ar_fill {p : Program} (l : Launch) {e : Env} {s : State} {m : MethodId} {args : Array Value} {below : List Frame} {meth : Method} {c : Code} {Q : State → Prop} {A : Nat → Prop} {H0 : Heap} (C0 : cx p s m args meth c b_Ar_fill 4 none R_Ar) (dC : Nat → ClassId) (dI : Nat → Nat → Nat) (cI cL cZ : ClassId) (bb : Nat) (f : Nat → Int32) (x : Int32) (hK : va_K (dC, dI) classes (tyI cI cL cZ) s) (hA : ∀ q : Nat, H0.size ≤ q → A q) 
    (KB : ∀ (H : Heap) (locs : List Loc) (ls : Array Slot), va_P (dC, dI) classes [(bb, .inl (cI, 11, .inl (fl 11 x f)))] H → va_D A [(bb, .inl (cI, 11, .inl (fl 11 x f)))] → va_S A H0 H locs → lv_has ls 4 [(0, .ref bb)] → W p l e (rmH 1 0 0) s m args below meth c H locs 0 0 Q (F0 m 20 ls []))
    : ∀ (q : Nat) (i : Nat), i + q = 11 → ∀ (H : Heap) (locs : List Loc) (ls : Array Slot), va_P (dC, dI) classes [(bb, .inl (cI, 11, .inl (fl i x f)))] H → va_D A [(bb, .inl (cI, 11, .inl (fl i x f)))] → va_S A H0 H locs → lv_has ls 4 [(0, .ref bb), (1, .int x), (2, .int (nI i)), (3, .int 11)] → W p l e (rmH 1 0 0) s m args below meth c H locs 0 0 Q (F0 m 5 ls []) := by
  obtain ⟨hx, hb, hr, hml, hown, htb, hlocks⟩ := id C0
  intro q
  induction q with
  | zero =>
    intro i hi H locs ls hP hD hS hl
    refine lv_iload_n hx hb d_Ar_fill_5 rfl (lv_at hl 2 rfl) ?_
    refine lv_iload_n hx hb d_Ar_fill_6 rfl (lv_at hl 3 rfl) ?_
    refine lv_icmp_ge (tgt := 20) hx hb d_Ar_fill_7 (by decide) (fun c_7 => ?_) (fun c_7 => ?_)
    · exact KB H locs ls (by rw [show fl 11 x f = fl i x f from by rw [show 11 = i by omega]]; exact hP) (by rw [show fl 11 x f = fl i x f from by rw [show 11 = i by omega]]; exact hD) hS (lv_sub hl [0] rfl)
    · exact absurd ((nI_leI (a := 11) (b := i) (by decide) (by omega)).mpr (by omega)) c_7
  | succ q ih =>
    intro i hi H locs ls hP hD hS hl
    refine lv_iload_n hx hb d_Ar_fill_5 rfl (lv_at hl 2 rfl) ?_
    refine lv_iload_n hx hb d_Ar_fill_6 rfl (lv_at hl 3 rfl) ?_
    refine lv_icmp_ge (tgt := 20) hx hb d_Ar_fill_7 (by decide) (fun c_7 => ?_) (fun c_7 => ?_)
    · exact absurd ((nI_leI (a := 11) (b := i) (by decide) (by omega)).mp c_7) (by omega)
    · refine lv_aload_n hx hb d_Ar_fill_10 rfl (lv_at hl 0 rfl) ?_
      refine lv_iload_n hx hb d_Ar_fill_11 rfl (lv_at hl 2 rfl) ?_
      refine lv_iload_n hx hb d_Ar_fill_12 rfl (lv_at hl 1 rfl) ?_
      refine ry_iast (D := (dC, dI)) (j := i) hx hb hK hP hD hS 0 0 rfl rfl (by omega) (by decide) d_Ar_fill_13 (fun H locs hP hD hS => ?_)
      have hP : va_P (dC, dI) classes [(bb, .inl (cI, 11, .inl (upd (fl i x f) i x)))] H := hP
      have hD : va_D A [(bb, .inl (cI, 11, .inl (upd (fl i x f) i x)))] := hD
      refine lv_iinc (v := (nI (i + 1))) (lv' := [(2, .int (nI (i + 1))), (0, .ref bb), (1, .int x), (3, .int 11)]) hx hb d_Ar_fill_14 hl (k := 2) rfl (nI_1 _) (by decide) rfl (fun ls hl => ?_)
      refine lv_goto (tgt := 5) hx hb d_Ar_fill_17 (by decide) ?_
      exact ih (i + 1) (by omega) H locs ls (by rw [← fl_s]; exact hP) (by rw [← fl_s]; exact hD) hS (lv_sub hl [1, 2, 0, 3] rfl)

set_option maxHeartbeats 4000000 in
set_option maxRecDepth 100000 in
theorem c_Ar_fill (l : Launch) (dC : Nat → ClassId) (dI : Nat → Nat → Nat) (cI cL cZ : ClassId) (bb : Nat) (f : Nat → Int32) (x : Int32) (sz : Nat) : Met l y_Ar_fill (cw_Ar_fill :: tb) (rmH 1 0 0) (va_Pc [.ref bb, .int x] (wy_P (dC, dI) classes [(bb, .inl (cI, 11, .inl f))] (tyI cI cL cZ) sz)) (wy_Q ry_v (fun _ (u : Unit) => True) (wy_B (dC, dI) classes (tyI cI cL cZ) (va_A [(bb, .inl (cI, 11, .inl f))] sz) (fun u : Unit => [(bb, .inl (cI, 11, .inl (fl 11 x f)))])) (va_A [(bb, .inl (cI, 11, .inl f))] sz)) 0 0 (va_A [(bb, .inl (cI, 11, .inl f))] sz) := by
  refine Met.ofW (cc := b_Ar_fill) (maxL := 4) (ret := none) (by decide +kernel) rfl ?_
  intro p e s m args below meth c s₁ B hml0 hv
  have C0 := cx_of B hml0 rfl
  obtain ⟨hx, hb, hr, hml, hown, htb, hlocks⟩ := id C0
  obtain ⟨rfl, hsz, hP, hK, hD0⟩ := hv
  subst hsz
  have hD := hD0.self (sz := s.heap.size)
  generalize hAe : va_A [(bb, .inl (cI, 11, .inl f))] s.heap.size = A at hD ⊢
  have hA : ∀ q : Nat, s.heap.size ≤ q → A q := fun q h => by rw [← hAe]; exact Or.inr h
  have hS : va_S A s.heap s.heap [] := va_S.rf
  have hl := lv_entry ([.ref bb, .int x]) (n := 4) (Nat.le_of_ble_eq_true rfl)
  rw [lg_entry_eq]
  generalize (lg_sl ([.ref bb, .int x]) ++ List.replicate (4 - (lg_sl ([.ref bb, .int x])).length) Slot.unset).toArray = ls at hl ⊢
  have hl : lv_has ls 4 [(0, .ref bb), (1, .int x)] := hl
  have hP : va_P (dC, dI) classes [(bb, .inl (cI, 11, .inl f))] s.heap := hP
  have hD : va_D A [(bb, .inl (cI, 11, .inl f))] := hD
  have hA0 := hA
  refine lv_iconst (v := 0) hx hb d_Ar_fill_0 (by decide) ?_
  refine lv_istore_n (lv' := [(2, .int 0), (0, .ref bb), (1, .int x)]) hx hb d_Ar_fill_1 rfl hl (by decide) rfl (fun ls hl => ?_)
  refine lv_aload_n hx hb d_Ar_fill_2 rfl (lv_at hl 1 rfl) ?_
  refine va_alen (D := (dC, dI)) (v := 11) hx hb hK hP 0 0 rfl rfl rfl d_Ar_fill_3 ?_
  refine lv_istore_n (lv' := [(3, .int 11), (2, .int 0), (0, .ref bb), (1, .int x)]) hx hb d_Ar_fill_4 rfl hl (by decide) rfl (fun ls hl => ?_)
  refine lp_Ar_fill l C0 dC dI cI cL cZ bb f x hK hA (fun H locs ls hP hD hS hl => ?_) 11 0 (by omega) s.heap [] ls (by rw [fl_0]; exact hP) (by rw [fl_0]; exact hD) hS (lv_sub hl [2, 3, 1, 0] rfl)
  exact W.vret hx hb hr (fun t ht hW => ⟨⟨(), (), rfl, trivial, by rw [ht]; exact hP, va_K.moved hW.alike hK, hD⟩, hS.F ht⟩) hS.2.2 d_Ar_fill_20

set_option maxHeartbeats 4000000 in
set_option maxRecDepth 100000 in
theorem lp_Nd_canKeptBeSolved {p : Program} (l : Launch) {e : Env} {s : State} {m : MethodId} {args : Array Value} {below : List Frame} {meth : Method} {c : Code} {Q : State → Prop} {A : Nat → Prop} {H0 : Heap} (C0 : cx p s m args meth c b_Nd_canKeptBeSolved 2 (some .boolean) R_Nd) (dC : Nat → ClassId) (dI : Nat → Nat → Nat) (cI cL cZ : ClassId) (ad : Nat → Nat) (LO ST HI KP : Nat → Int32) (unk cnt : Nat) (sv sk ck : Int32) (hunk : unk ≤ 10) (hcnt : cnt ≤ 30) (lo hi : Nat → Nat) (hlo : ∀ j, j < cnt → LO j = nI (lo j) ∧ lo j < 11) (hhi : ∀ j, j < cnt → HI j = nI (hi j) ∧ hi j < 11) (RR : Int32 × (Nat → Int32)) (hK : va_K (dC, dI) classes (tyI cI cL cZ) s) (hA : ∀ q : Nat, H0.size ≤ q → A q) 
    (KA : ∀ (NB : Nat → Int32) (H : Heap) (locs : List Loc) (ls : Array Slot), RR = (1, NB) → va_P (dC, dI) classes [((ad 12), .inr (3, [.ref (ad 13), .ref (ad 14), .ref (ad 15), .ref (ad 16), .ref (ad 17), .int (nI unk), .int (nI cnt), .int sv, .int sk, .int ck])), ((ad 13), .inl (cI, 30, .inl LO)), ((ad 14), .inl (cI, 30, .inl ST)), ((ad 15), .inl (cI, 30, .inl HI)), ((ad 16), .inl (cZ, 30, .inl KP)), ((ad 17), .inl (cI, 11, .inl NB))] H → va_D A [((ad 12), .inr (3, [.ref (ad 13), .ref (ad 14), .ref (ad 15), .ref (ad 16), .ref (ad 17), .int (nI unk), .int (nI cnt), .int sv, .int sk, .int ck])), ((ad 13), .inl (cI, 30, .inl LO)), ((ad 14), .inl (cI, 30, .inl ST)), ((ad 15), .inl (cI, 30, .inl HI)), ((ad 16), .inl (cZ, 30, .inl KP)), ((ad 17), .inl (cI, 11, .inl NB))] → va_S A H0 H locs → lv_has ls 2 [(0, .ref (ad 12))] → W p l e (rmH 3 0 0) s m args below meth c H locs 0 0 Q (F0 m 23 ls []))
    (KC : ∀ (NB : Nat → Int32) (H : Heap) (locs : List Loc) (ls : Array Slot), RR = (0, NB) → va_P (dC, dI) classes [((ad 12), .inr (3, [.ref (ad 13), .ref (ad 14), .ref (ad 15), .ref (ad 16), .ref (ad 17), .int (nI unk), .int (nI cnt), .int sv, .int sk, .int ck])), ((ad 13), .inl (cI, 30, .inl LO)), ((ad 14), .inl (cI, 30, .inl ST)), ((ad 15), .inl (cI, 30, .inl HI)), ((ad 16), .inl (cZ, 30, .inl KP)), ((ad 17), .inl (cI, 11, .inl NB))] H → va_D A [((ad 12), .inr (3, [.ref (ad 13), .ref (ad 14), .ref (ad 15), .ref (ad 16), .ref (ad 17), .int (nI unk), .int (nI cnt), .int sv, .int sk, .int ck])), ((ad 13), .inl (cI, 30, .inl LO)), ((ad 14), .inl (cI, 30, .inl ST)), ((ad 15), .inl (cI, 30, .inl HI)), ((ad 16), .inl (cZ, 30, .inl KP)), ((ad 17), .inl (cI, 11, .inl NB))] → va_S A H0 H locs → lv_has ls 2 [(0, .ref (ad 12))] → W p l e (rmH 3 0 0) s m args below meth c H locs 0 0 Q (F0 m 35 ls []))
    (KB : ∀ (NB : Nat → Int32) (H : Heap) (locs : List Loc) (ls : Array Slot), RR = (0, NB) → va_P (dC, dI) classes [((ad 12), .inr (3, [.ref (ad 13), .ref (ad 14), .ref (ad 15), .ref (ad 16), .ref (ad 17), .int (nI unk), .int (nI cnt), .int sv, .int sk, .int ck])), ((ad 13), .inl (cI, 30, .inl LO)), ((ad 14), .inl (cI, 30, .inl ST)), ((ad 15), .inl (cI, 30, .inl HI)), ((ad 16), .inl (cZ, 30, .inl KP)), ((ad 17), .inl (cI, 11, .inl NB))] H → va_D A [((ad 12), .inr (3, [.ref (ad 13), .ref (ad 14), .ref (ad 15), .ref (ad 16), .ref (ad 17), .int (nI unk), .int (nI cnt), .int sv, .int sk, .int ck])), ((ad 13), .inl (cI, 30, .inl LO)), ((ad 14), .inl (cI, 30, .inl ST)), ((ad 15), .inl (cI, 30, .inl HI)), ((ad 16), .inl (cZ, 30, .inl KP)), ((ad 17), .inl (cI, 11, .inl NB))] → va_S A H0 H locs → lv_has ls 2 [(0, .ref (ad 12))] → W p l e (rmH 3 0 0) s m args below meth c H locs 0 0 Q (F0 m 43 ls []))
    : ∀ (q : Nat) (i : Nat) (NB : Nat → Int32), i + q = 12 ∧ RR = rds lo hi ST KP cnt q NB → ∀ (H : Heap) (locs : List Loc) (ls : Array Slot), va_P (dC, dI) classes [((ad 12), .inr (3, [.ref (ad 13), .ref (ad 14), .ref (ad 15), .ref (ad 16), .ref (ad 17), .int (nI unk), .int (nI cnt), .int sv, .int sk, .int ck])), ((ad 13), .inl (cI, 30, .inl LO)), ((ad 14), .inl (cI, 30, .inl ST)), ((ad 15), .inl (cI, 30, .inl HI)), ((ad 16), .inl (cZ, 30, .inl KP)), ((ad 17), .inl (cI, 11, .inl NB))] H → va_D A [((ad 12), .inr (3, [.ref (ad 13), .ref (ad 14), .ref (ad 15), .ref (ad 16), .ref (ad 17), .int (nI unk), .int (nI cnt), .int sv, .int sk, .int ck])), ((ad 13), .inl (cI, 30, .inl LO)), ((ad 14), .inl (cI, 30, .inl ST)), ((ad 15), .inl (cI, 30, .inl HI)), ((ad 16), .inl (cZ, 30, .inl KP)), ((ad 17), .inl (cI, 11, .inl NB))] → va_S A H0 H locs → lv_has ls 2 [(0, .ref (ad 12)), (1, .int (nI i))] → W p l e (rmH 3 0 0) s m args below meth c H locs 0 0 Q (F0 m 10 ls []) := by
  obtain ⟨hx, hb, hr, hml, hown, htb, hlocks⟩ := id C0
  intro q
  induction q with
  | zero =>
    intro i NB hiV H locs ls hP hD hS hl
    obtain ⟨hi0, hR⟩ := hiV
    refine lv_iload_n hx hb d_Nd_canKeptBeSolved_10 rfl (lv_at hl 1 rfl) ?_
    refine lv_bipush (v := 11) hx hb d_Nd_canKeptBeSolved_11 (by decide) ?_
    refine lv_icmp_gt (tgt := 43) hx hb d_Nd_canKeptBeSolved_13 (by decide) (fun c_13 => ?_) (fun c_13 => ?_)
    · exact KB NB H locs ls hR hP hD hS (lv_sub hl [0] rfl)
    · exact absurd ((nI_ltI (a := 11) (b := i) (by decide) (by omega)).mpr (by omega)) c_13
  | succ q ih =>
    intro i NB hiV H locs ls hP hD hS hl
    obtain ⟨hi0, hR⟩ := hiV
    refine lv_iload_n hx hb d_Nd_canKeptBeSolved_10 rfl (lv_at hl 1 rfl) ?_
    refine lv_bipush (v := 11) hx hb d_Nd_canKeptBeSolved_11 (by decide) ?_
    refine lv_icmp_gt (tgt := 43) hx hb d_Nd_canKeptBeSolved_13 (by decide) (fun c_13 => ?_) (fun c_13 => ?_)
    · exact absurd ((nI_ltI (a := 11) (b := i) (by decide) (by omega)).mp c_13) (by omega)
    · refine lv_aload_n hx hb d_Nd_canKeptBeSolved_16 rfl (lv_at hl 0 rfl) ?_
      refine wy_callV (n := 0) (wr := []) (As := []) (rest := []) ⟨hx, hb, hml, hown, htb⟩ (c_Nd_raiseNumbers l dC dI cI cL cZ ad LO ST HI KP NB unk cnt sv sk ck hunk hcnt lo hi hlo hhi H.size) (gV mw_166 mw_168 mp_3 mw_4 mc_Nd_raiseNumbers) rfl rfl (by decide +kernel) ⟨Nat.le_of_ble_eq_true rfl, Nat.le_of_ble_eq_true rfl⟩ hP hD hS hA hK [0, 1, 2, 3, 4, 5] [] rfl rfl (by decide) (by decide) (hP.sub [0, 1, 2, 3, 4, 5] rfl) ((hD.sub [0, 1, 2, 3, 4, 5] (by decide) rfl).weaken (fun _ _ _ _ => trivial)) (ci := 3) (q0 := 0) rfl rfl rfl rfl hl.1 rfl (Nat.le_of_ble_eq_true rfl) d_Nd_canKeptBeSolved_17 ⟨Nat.le_of_ble_eq_true rfl, Nat.le_of_ble_eq_true rfl⟩ (fun r u H locs hpost hP hD hS => ?_)
      obtain ⟨h1, h2⟩ := hpost
      subst h1; subst h2
      have hP : va_P (dC, dI) classes [((ad 12), .inr (3, [.ref (ad 13), .ref (ad 14), .ref (ad 15), .ref (ad 16), .ref (ad 17), .int (nI unk), .int (nI cnt), .int sv, .int sk, .int ck])), ((ad 13), .inl (cI, 30, .inl LO)), ((ad 14), .inl (cI, 30, .inl ST)), ((ad 15), .inl (cI, 30, .inl HI)), ((ad 16), .inl (cZ, 30, .inl KP)), ((ad 17), .inl (cI, 11, .inl ((ps lo hi ST KP 0 cnt NB 0).1)))] H := hP
      have hD : va_D A [((ad 12), .inr (3, [.ref (ad 13), .ref (ad 14), .ref (ad 15), .ref (ad 16), .ref (ad 17), .int (nI unk), .int (nI cnt), .int sv, .int sk, .int ck])), ((ad 13), .inl (cI, 30, .inl LO)), ((ad 14), .inl (cI, 30, .inl ST)), ((ad 15), .inl (cI, 30, .inl HI)), ((ad 16), .inl (cZ, 30, .inl KP)), ((ad 17), .inl (cI, 11, .inl ((ps lo hi ST KP 0 cnt NB 0).1)))] := hD
      refine W.eq (g2 := F0 m 20 ls [.int (ps lo hi ST KP 0 cnt NB 0).2]) rfl ?_
      refine lv_if_ne (tgt := 25) hx hb d_Nd_canKeptBeSolved_20 (by decide) (fun c_20 => ?_) (fun c_20 => ?_)
      · refine lv_aload_n hx hb d_Nd_canKeptBeSolved_25 rfl (lv_at hl 0 rfl) ?_
        refine va_get (D := (dC, dI)) (ci := 3) (v := .ref (ad 17)) (C := R_Nd) (T := F_Nd) (N := 10) hx hb htb ul_Nd hown hK hP 0 rfl rfl 4 (by decide) (htb _ mw_82) (fun _ h9 => h9) rfl d_Nd_canKeptBeSolved_26 ?_
        refine lv_bipush (v := 10) hx hb d_Nd_canKeptBeSolved_29 (by decide) ?_
        refine ry_iald (D := (dC, dI)) (j := 10) hx hb hK hP 5 0 rfl rfl (by decide) (by decide) d_Nd_canKeptBeSolved_31 ?_
        refine lv_if_le (tgt := 37) hx hb d_Nd_canKeptBeSolved_32 (by decide) (fun c_32 => ?_) (fun c_32 => ?_)
        · refine lv_iinc (v := (nI (i + 1))) (lv' := [(1, .int (nI (i + 1))), (0, .ref (ad 12))]) hx hb d_Nd_canKeptBeSolved_37 hl (k := 1) rfl (nI_1 _) (by decide) rfl (fun ls hl => ?_)
          refine lv_goto (tgt := 10) hx hb d_Nd_canKeptBeSolved_40 (by decide) ?_
          exact ih (i + 1) (ps lo hi ST KP 0 cnt NB 0).1 ⟨by omega, by rw [hR, rds, if_neg c_20, if_pos c_32]⟩ H locs ls hP hD hS (lv_sub hl [1, 0] rfl)
        · exact KC (ps lo hi ST KP 0 cnt NB 0).1 H locs ls (by rw [hR, rds, if_neg c_20, if_neg c_32]) hP hD hS (lv_sub hl [0] rfl)
      · exact KA (ps lo hi ST KP 0 cnt NB 0).1 H locs ls (by rw [hR, rds, if_pos c_20]) hP hD hS (lv_sub hl [0] rfl)

set_option maxHeartbeats 4000000 in
set_option maxRecDepth 100000 in
theorem c_Nd_canKeptBeSolved (l : Launch) (dC : Nat → ClassId) (dI : Nat → Nat → Nat) (cI cL cZ : ClassId) (ad : Nat → Nat) (LO ST HI KP NB : Nat → Int32) (unk cnt : Nat) (sv sk ck : Int32) (hunk : unk ≤ 10) (hcnt : cnt ≤ 30) (lo hi : Nat → Nat) (hlo : ∀ j, j < cnt → LO j = nI (lo j) ∧ lo j < 11) (hhi : ∀ j, j < cnt → HI j = nI (hi j) ∧ hi j < 11) (sz : Nat) : Met l y_Nd_canKeptBeSolved (cw_Nd_canKeptBeSolved :: tb) (rmH 3 0 0) (va_Pc [.ref (ad 12)] (wy_P (dC, dI) classes (wNd cI cZ ad LO ST HI KP NB unk cnt sv sk ck) (tyI cI cL cZ) sz)) (wy_Q ry_i (fun r (u : Nat → Int32) => r = (cks lo hi ST KP cnt NB).1 ∧ u = (cks lo hi ST KP cnt NB).2) (wy_B (dC, dI) classes (tyI cI cL cZ) (va_A (wNd cI cZ ad LO ST HI KP NB unk cnt sv sk ck) sz) (fun u : Nat → Int32 => (wNd cI cZ ad LO ST HI KP u unk cnt sv sk ck))) (va_A (wNd cI cZ ad LO ST HI KP NB unk cnt sv sk ck) sz)) 0 0 (va_A (wNd cI cZ ad LO ST HI KP NB unk cnt sv sk ck) sz) := by
  refine Met.ofW (cc := b_Nd_canKeptBeSolved) (maxL := 2) (ret := (some .boolean)) (by decide +kernel) rfl ?_
  intro p e s m args below meth c s₁ B hml0 hv
  have C0 := cx_of B hml0 rfl
  obtain ⟨hx, hb, hr, hml, hown, htb, hlocks⟩ := id C0
  obtain ⟨rfl, hsz, hP, hK, hD0⟩ := hv
  subst hsz
  have hD := hD0.self (sz := s.heap.size)
  generalize hAe : va_A (wNd cI cZ ad LO ST HI KP NB unk cnt sv sk ck) s.heap.size = A at hD ⊢
  have hA : ∀ q : Nat, s.heap.size ≤ q → A q := fun q h => by rw [← hAe]; exact Or.inr h
  have hS : va_S A s.heap s.heap [] := va_S.rf
  have hl := lv_entry ([.ref (ad 12)]) (n := 2) (Nat.le_of_ble_eq_true rfl)
  rw [lg_entry_eq]
  generalize (lg_sl ([.ref (ad 12)]) ++ List.replicate (2 - (lg_sl ([.ref (ad 12)])).length) Slot.unset).toArray = ls at hl ⊢
  have hl : lv_has ls 2 [(0, .ref (ad 12))] := hl
  have hP : va_P (dC, dI) classes [((ad 12), .inr (3, [.ref (ad 13), .ref (ad 14), .ref (ad 15), .ref (ad 16), .ref (ad 17), .int (nI unk), .int (nI cnt), .int sv, .int sk, .int ck])), ((ad 13), .inl (cI, 30, .inl LO)), ((ad 14), .inl (cI, 30, .inl ST)), ((ad 15), .inl (cI, 30, .inl HI)), ((ad 16), .inl (cZ, 30, .inl KP)), ((ad 17), .inl (cI, 11, .inl NB))] s.heap := hP
  have hD : va_D A [((ad 12), .inr (3, [.ref (ad 13), .ref (ad 14), .ref (ad 15), .ref (ad 16), .ref (ad 17), .int (nI unk), .int (nI cnt), .int sv, .int sk, .int ck])), ((ad 13), .inl (cI, 30, .inl LO)), ((ad 14), .inl (cI, 30, .inl ST)), ((ad 15), .inl (cI, 30, .inl HI)), ((ad 16), .inl (cZ, 30, .inl KP)), ((ad 17), .inl (cI, 11, .inl NB))] := hD
  have hA0 := hA
  refine lv_aload_n hx hb d_Nd_canKeptBeSolved_0 rfl (lv_at hl 0 rfl) ?_
  refine va_get (D := (dC, dI)) (ci := 3) (v := .ref (ad 17)) (C := R_Nd) (T := F_Nd) (N := 10) hx hb htb ul_Nd hown hK hP 0 rfl rfl 4 (by decide) (htb _ mw_82) (fun _ h9 => h9) rfl d_Nd_canKeptBeSolved_1 ?_
  refine lv_iconst (v := 0) hx hb d_Nd_canKeptBeSolved_4 (by decide) ?_
  refine wy_callS (n := 2) (wr := [((ad 12), .inr (3, [.ref (ad 13), .ref (ad 14), .ref (ad 15), .ref (ad 16), .ref (ad 17), .int (nI unk), .int (nI cnt), .int sv, .int sk, .int ck])), ((ad 13), .inl (cI, 30, .inl LO)), ((ad 14), .inl (cI, 30, .inl ST)), ((ad 15), .inl (cI, 30, .inl HI)), ((ad 16), .inl (cZ, 30, .inl KP))]) (As := [.ref (ad 17), .int 0]) (rest := []) ⟨hx, hb, hml, hown, htb⟩ (c_Ar_fill l dC dI cI cL cZ (ad 17) NB 0 s.heap.size) (gS mw_163 mw_164 mw_14 mc_Ar_fill) rfl rfl (by decide +kernel) ⟨Nat.le_of_ble_eq_true rfl, Nat.le_of_ble_eq_true rfl⟩ hP hD hS hA hK [5] [0, 1, 2, 3, 4] rfl rfl (by decide) (by decide) (hP.sub [5] rfl) ((hD.sub [5] (by decide) rfl).weaken (fun _ _ _ _ => trivial)) rfl hl.1 rfl (Nat.le_of_ble_eq_true rfl) d_Nd_canKeptBeSolved_5 ⟨Nat.le_of_ble_eq_true rfl, Nat.le_of_ble_eq_true rfl⟩ (fun r u H locs hpost hP hD hS => ?_)
  have hP : va_P (dC, dI) classes [((ad 12), .inr (3, [.ref (ad 13), .ref (ad 14), .ref (ad 15), .ref (ad 16), .ref (ad 17), .int (nI unk), .int (nI cnt), .int sv, .int sk, .int ck])), ((ad 13), .inl (cI, 30, .inl LO)), ((ad 14), .inl (cI, 30, .inl ST)), ((ad 15), .inl (cI, 30, .inl HI)), ((ad 16), .inl (cZ, 30, .inl KP)), ((ad 17), .inl (cI, 11, .inl (fl 11 0 NB)))] H := hP
  have hD : va_D A [((ad 12), .inr (3, [.ref (ad 13), .ref (ad 14), .ref (ad 15), .ref (ad 16), .ref (ad 17), .int (nI unk), .int (nI cnt), .int sv, .int sk, .int ck])), ((ad 13), .inl (cI, 30, .inl LO)), ((ad 14), .inl (cI, 30, .inl ST)), ((ad 15), .inl (cI, 30, .inl HI)), ((ad 16), .inl (cZ, 30, .inl KP)), ((ad 17), .inl (cI, 11, .inl (fl 11 0 NB)))] := hD
  refine W.eq (g2 := F0 m 8 ls []) rfl ?_
  refine lv_iconst (v := 0) hx hb d_Nd_canKeptBeSolved_8 (by decide) ?_
  refine lv_istore_n (lv' := [(1, .int 0), (0, .ref (ad 12))]) hx hb d_Nd_canKeptBeSolved_9 rfl hl (by decide) rfl (fun ls hl => ?_)
  refine lp_Nd_canKeptBeSolved l C0 dC dI cI cL cZ ad LO ST HI KP unk cnt sv sk ck hunk hcnt lo hi hlo hhi (cks lo hi ST KP cnt NB) hK hA (fun NB9 H locs ls hR hP hD hS hl => ?_) (fun NB9 H locs ls hR hP hD hS hl => ?_) (fun NB9 H locs ls hR hP hD hS hl => ?_) 12 0 (fl 11 0 NB) ⟨rfl, rfl⟩ H locs ls hP hD hS (lv_sub hl [1, 0] rfl)
  · refine lv_iconst (v := 1) hx hb d_Nd_canKeptBeSolved_23 (by decide) ?_
    exact W.zret (v := 1) hx hb hr rfl (fun t ht hW => ⟨⟨1, NB9, rfl, ⟨by rw [hR], by rw [hR]⟩, by rw [ht]; exact hP, va_K.moved hW.alike hK, hD⟩, hS.F ht⟩) hS.2.2 d_Nd_canKeptBeSolved_24
  · refine lv_iconst (v := 0) hx hb d_Nd_canKeptBeSolved_35 (by decide) ?_
    exact W.zret (v := 0) hx hb hr rfl (fun t ht hW => ⟨⟨0, NB9, rfl, ⟨by rw [hR], by rw [hR]⟩, by rw [ht]; exact hP, va_K.moved hW.alike hK, hD⟩, hS.F ht⟩) hS.2.2 d_Nd_canKeptBeSolved_36
  · refine lv_iconst (v := 0) hx hb d_Nd_canKeptBeSolved_43 (by decide) ?_
    exact W.zret (v := 0) hx hb hr rfl (fun t ht hW => ⟨⟨0, NB9, rfl, ⟨by rw [hR], by rw [hR]⟩, by rw [ht]; exact hP, va_K.moved hW.alike hK, hD⟩, hS.F ht⟩) hS.2.2 d_Nd_canKeptBeSolved_44
end
section
set_option maxHeartbeats 4000000 in
set_option maxRecDepth 100000 in
theorem c_Nd_areSolved (l : Launch) (dC : Nat → ClassId) (dI : Nat → Nat → Nat) (cI cL cZ : ClassId) (ad : Nat → Nat) (LO ST HI KP NB : Nat → Int32) (unk cnt : Nat) (sv sk ck : Int32) (hunk : unk ≤ 10) (hcnt : cnt ≤ 30) (lo hi : Nat → Nat) (hlo : ∀ j, j < cnt → LO j = nI (lo j) ∧ lo j < 11) (hhi : ∀ j, j < cnt → HI j = nI (hi j) ∧ hi j < 11) (h0 : sk = 0) (sz : Nat) : Met l y_Nd_areSolved (cw_Nd_areSolved :: tb) (rmH 4 0 0) (va_Pc [.ref (ad 12)] (wy_P (dC, dI) classes (wNd cI cZ ad LO ST HI KP NB unk cnt sv sk ck) (tyI cI cL cZ) sz)) (wy_Q ry_i (fun r (u : Unit) => r = (cks lo hi ST (fl cnt 1 KP) cnt NB).1) (wy_B (dC, dI) classes (tyI cI cL cZ) (va_A (wNd cI cZ ad LO ST HI KP NB unk cnt sv sk ck) sz) (fun u : Unit => (wNd cI cZ ad LO ST HI (fl cnt 1 KP) (cks lo hi ST (fl cnt 1 KP) cnt NB).2 unk cnt (cks lo hi ST (fl cnt 1 KP) cnt NB).1 1 ck))) (va_A (wNd cI cZ ad LO ST HI KP NB unk cnt sv sk ck) sz)) 0 0 (va_A (wNd cI cZ ad LO ST HI KP NB unk cnt sv sk ck) sz) := by
  refine Met.ofW (cc := b_Nd_areSolved) (maxL := 1) (ret := (some .boolean)) (by decide +kernel) rfl ?_
  intro p e s m args below meth c s₁ B hml0 hv
  have C0 := cx_of B hml0 rfl
  obtain ⟨hx, hb, hr, hml, hown, htb, hlocks⟩ := id C0
  obtain ⟨rfl, hsz, hP, hK, hD0⟩ := hv
  subst hsz
  have hD := hD0.self (sz := s.heap.size)
  generalize hAe : va_A (wNd cI cZ ad LO ST HI KP NB unk cnt sv sk ck) s.heap.size = A at hD ⊢
  have hA : ∀ q : Nat, s.heap.size ≤ q → A q := fun q h => by rw [← hAe]; exact Or.inr h
  have hS : va_S A s.heap s.heap [] := va_S.rf
  have hl := lv_entry ([.ref (ad 12)]) (n := 1) (Nat.le_of_ble_eq_true rfl)
  rw [lg_entry_eq]
  generalize (lg_sl ([.ref (ad 12)]) ++ List.replicate (1 - (lg_sl ([.ref (ad 12)])).length) Slot.unset).toArray = ls at hl ⊢
  have hl : lv_has ls 1 [(0, .ref (ad 12))] := hl
  have hP : va_P (dC, dI) classes [((ad 12), .inr (3, [.ref (ad 13), .ref (ad 14), .ref (ad 15), .ref (ad 16), .ref (ad 17), .int (nI unk), .int (nI cnt), .int sv, .int sk, .int ck])), ((ad 13), .inl (cI, 30, .inl LO)), ((ad 14), .inl (cI, 30, .inl ST)), ((ad 15), .inl (cI, 30, .inl HI)), ((ad 16), .inl (cZ, 30, .inl KP)), ((ad 17), .inl (cI, 11, .inl NB))] s.heap := hP
  have hD : va_D A [((ad 12), .inr (3, [.ref (ad 13), .ref (ad 14), .ref (ad 15), .ref (ad 16), .ref (ad 17), .int (nI unk), .int (nI cnt), .int sv, .int sk, .int ck])), ((ad 13), .inl (cI, 30, .inl LO)), ((ad 14), .inl (cI, 30, .inl ST)), ((ad 15), .inl (cI, 30, .inl HI)), ((ad 16), .inl (cZ, 30, .inl KP)), ((ad 17), .inl (cI, 11, .inl NB))] := hD
  have hA0 := hA
  refine lv_aload_n hx hb d_Nd_areSolved_0 rfl (lv_at hl 0 rfl) ?_
  refine va_get (D := (dC, dI)) (ci := 3) (v := .int sk) (C := R_Nd) (T := F_Nd) (N := 10) hx hb htb ul_Nd hown hK hP 0 rfl rfl 8 (by decide) (htb _ mw_86) (fun _ h9 => h9) rfl d_Nd_areSolved_1 ?_
  refine lv_if_ne (tgt := 24) hx hb d_Nd_areSolved_4 (by decide) (fun c_4 => ?_) (fun c_4 => ?_)
  · exact absurd h0 c_4
  · refine lv_aload_n hx hb d_Nd_areSolved_7 rfl (lv_at hl 0 rfl) ?_
    refine wy_callV (n := 0) (wr := []) (As := []) (rest := []) ⟨hx, hb, hml, hown, htb⟩ (c_Nd_keepAll l dC dI cI cL cZ ad LO ST HI KP NB unk cnt sv sk ck hunk hcnt s.heap.size) (gV mw_155 mw_157 mp_1 mw_4 mc_Nd_keepAll) rfl rfl (by decide +kernel) ⟨Nat.le_of_ble_eq_true rfl, Nat.le_of_ble_eq_true rfl⟩ hP hD hS hA hK [0, 1, 2, 3, 4, 5] [] rfl rfl (by decide) (by decide) (hP.sub [0, 1, 2, 3, 4, 5] rfl) ((hD.sub [0, 1, 2, 3, 4, 5] (by decide) rfl).weaken (fun _ _ _ _ => trivial)) (ci := 3) (q0 := 0) rfl rfl rfl rfl hl.1 rfl (Nat.le_of_ble_eq_true rfl) d_Nd_areSolved_8 ⟨Nat.le_of_ble_eq_true rfl, Nat.le_of_ble_eq_true rfl⟩ (fun r u H locs hpost hP hD hS => ?_)
    have hP : va_P (dC, dI) classes [((ad 12), .inr (3, [.ref (ad 13), .ref (ad 14), .ref (ad 15), .ref (ad 16), .ref (ad 17), .int (nI unk), .int (nI cnt), .int sv, .int sk, .int ck])), ((ad 13), .inl (cI, 30, .inl LO)), ((ad 14), .inl (cI, 30, .inl ST)), ((ad 15), .inl (cI, 30, .inl HI)), ((ad 16), .inl (cZ, 30, .inl (fl cnt 1 KP))), ((ad 17), .inl (cI, 11, .inl NB))] H := hP
    have hD : va_D A [((ad 12), .inr (3, [.ref (ad 13), .ref (ad 14), .ref (ad 15), .ref (ad 16), .ref (ad 17), .int (nI unk), .int (nI cnt), .int sv, .int sk, .int ck])), ((ad 13), .inl (cI, 30, .inl LO)), ((ad 14), .inl (cI, 30, .inl ST)), ((ad 15), .inl (cI, 30, .inl HI)), ((ad 16), .inl (cZ, 30, .inl (fl cnt 1 KP))), ((ad 17), .inl (cI, 11, .inl NB))] := hD
    refine W.eq (g2 := F0 m 11 ls []) rfl ?_
    refine lv_aload_n hx hb d_Nd_areSolved_11 rfl (lv_at hl 0 rfl) ?_
    refine lv_aload_n hx hb d_Nd_areSolved_12 rfl (lv_at hl 0 rfl) ?_
    refine wy_callV (n := 0) (wr := []) (As := []) (rest := [.ref (ad 12)]) ⟨hx, hb, hml, hown, htb⟩ (c_Nd_canKeptBeSolved l dC dI cI cL cZ ad LO ST HI (fl cnt 1 KP) NB unk cnt sv sk ck hunk hcnt lo hi hlo hhi H.size) (gV mw_159 mw_161 mp_2 mw_4 mc_Nd_canKeptBeSolved) rfl rfl (by decide +kernel) ⟨Nat.le_of_ble_eq_true rfl, Nat.le_of_ble_eq_true rfl⟩ hP hD hS hA hK [0, 1, 2, 3, 4, 5] [] rfl rfl (by decide) (by decide) (hP.sub [0, 1, 2, 3, 4, 5] rfl) ((hD.sub [0, 1, 2, 3, 4, 5] (by decide) rfl).weaken (fun _ _ _ _ => trivial)) (ci := 3) (q0 := 0) rfl rfl rfl rfl hl.1 rfl (Nat.le_of_ble_eq_true rfl) d_Nd_areSolved_13 ⟨Nat.le_of_ble_eq_true rfl, Nat.le_of_ble_eq_true rfl⟩ (fun r u H locs hpost hP hD hS => ?_)
    obtain ⟨h1, h2⟩ := hpost
    subst h1; subst h2
    have hP : va_P (dC, dI) classes [((ad 12), .inr (3, [.ref (ad 13), .ref (ad 14), .ref (ad 15), .ref (ad 16), .ref (ad 17), .int (nI unk), .int (nI cnt), .int sv, .int sk, .int ck])), ((ad 13), .inl (cI, 30, .inl LO)), ((ad 14), .inl (cI, 30, .inl ST)), ((ad 15), .inl (cI, 30, .inl HI)), ((ad 16), .inl (cZ, 30, .inl (fl cnt 1 KP))), ((ad 17), .inl (cI, 11, .inl ((cks lo hi ST (fl cnt 1 KP) cnt NB).2)))] H := hP
    have hD : va_D A [((ad 12), .inr (3, [.ref (ad 13), .ref (ad 14), .ref (ad 15), .ref (ad 16), .ref (ad 17), .int (nI unk), .int (nI cnt), .int sv, .int sk, .int ck])), ((ad 13), .inl (cI, 30, .inl LO)), ((ad 14), .inl (cI, 30, .inl ST)), ((ad 15), .inl (cI, 30, .inl HI)), ((ad 16), .inl (cZ, 30, .inl (fl cnt 1 KP))), ((ad 17), .inl (cI, 11, .inl ((cks lo hi ST (fl cnt 1 KP) cnt NB).2)))] := hD
    refine W.eq (g2 := F0 m 16 ls [.int (cks lo hi ST (fl cnt 1 KP) cnt NB).1, .ref (ad 12)]) rfl ?_
    refine va_put (D := (dC, dI)) (ci := 3) (v := .int (cks lo hi ST (fl cnt 1 KP) cnt NB).1) (ty := .boolean) (C := R_Nd) (T := F_Nd) (N := 10) hx hb htb ul_Nd t_Nd t_Nd_ok n_Nd hown hK hP hD hS 0 rfl rfl 7 (by decide) (htb _ mw_85) (fun _ h9 => h9) rfl (by decide +kernel) (bn cks_b) (bf cks_b) (Nat.le_of_ble_eq_true rfl) d_Nd_areSolved_16 (fun H locs hP hD hS => ?_)
    have hP : va_P (dC, dI) classes [((ad 12), .inr (3, [.ref (ad 13), .ref (ad 14), .ref (ad 15), .ref (ad 16), .ref (ad 17), .int (nI unk), .int (nI cnt), .int (cks lo hi ST (fl cnt 1 KP) cnt NB).1, .int sk, .int ck])), ((ad 13), .inl (cI, 30, .inl LO)), ((ad 14), .inl (cI, 30, .inl ST)), ((ad 15), .inl (cI, 30, .inl HI)), ((ad 16), .inl (cZ, 30, .inl (fl cnt 1 KP))), ((ad 17), .inl (cI, 11, .inl ((cks lo hi ST (fl cnt 1 KP) cnt NB).2)))] H := hP
    have hD : va_D A [((ad 12), .inr (3, [.ref (ad 13), .ref (ad 14), .ref (ad 15), .ref (ad 16), .ref (ad 17), .int (nI unk), .int (nI cnt), .int (cks lo hi ST (fl cnt 1 KP) cnt NB).1, .int sk, .int ck])), ((ad 13), .inl (cI, 30, .inl LO)), ((ad 14), .inl (cI, 30, .inl ST)), ((ad 15), .inl (cI, 30, .inl HI)), ((ad 16), .inl (cZ, 30, .inl (fl cnt 1 KP))), ((ad 17), .inl (cI, 11, .inl ((cks lo hi ST (fl cnt 1 KP) cnt NB).2)))] := hD
    refine lv_aload_n hx hb d_Nd_areSolved_19 rfl (lv_at hl 0 rfl) ?_
    refine lv_iconst (v := 1) hx hb d_Nd_areSolved_20 (by decide) ?_
    refine va_put (D := (dC, dI)) (ci := 3) (v := .int 1) (ty := .boolean) (C := R_Nd) (T := F_Nd) (N := 10) hx hb htb ul_Nd t_Nd t_Nd_ok n_Nd hown hK hP hD hS 0 rfl rfl 8 (by decide) (htb _ mw_86) (fun _ h9 => h9) rfl (by decide +kernel) rfl rfl (Nat.le_of_ble_eq_true rfl) d_Nd_areSolved_21 (fun H locs hP hD hS => ?_)
    have hP : va_P (dC, dI) classes [((ad 12), .inr (3, [.ref (ad 13), .ref (ad 14), .ref (ad 15), .ref (ad 16), .ref (ad 17), .int (nI unk), .int (nI cnt), .int (cks lo hi ST (fl cnt 1 KP) cnt NB).1, .int 1, .int ck])), ((ad 13), .inl (cI, 30, .inl LO)), ((ad 14), .inl (cI, 30, .inl ST)), ((ad 15), .inl (cI, 30, .inl HI)), ((ad 16), .inl (cZ, 30, .inl (fl cnt 1 KP))), ((ad 17), .inl (cI, 11, .inl ((cks lo hi ST (fl cnt 1 KP) cnt NB).2)))] H := hP
    have hD : va_D A [((ad 12), .inr (3, [.ref (ad 13), .ref (ad 14), .ref (ad 15), .ref (ad 16), .ref (ad 17), .int (nI unk), .int (nI cnt), .int (cks lo hi ST (fl cnt 1 KP) cnt NB).1, .int 1, .int ck])), ((ad 13), .inl (cI, 30, .inl LO)), ((ad 14), .inl (cI, 30, .inl ST)), ((ad 15), .inl (cI, 30, .inl HI)), ((ad 16), .inl (cZ, 30, .inl (fl cnt 1 KP))), ((ad 17), .inl (cI, 11, .inl ((cks lo hi ST (fl cnt 1 KP) cnt NB).2)))] := hD
    refine lv_aload_n hx hb d_Nd_areSolved_24 rfl (lv_at hl 0 rfl) ?_
    refine va_get (D := (dC, dI)) (ci := 3) (v := .int (cks lo hi ST (fl cnt 1 KP) cnt NB).1) (C := R_Nd) (T := F_Nd) (N := 10) hx hb htb ul_Nd hown hK hP 0 rfl rfl 7 (by decide) (htb _ mw_85) (fun _ h9 => h9) rfl d_Nd_areSolved_25 ?_
    exact W.zret (v := (cks lo hi ST (fl cnt 1 KP) cnt NB).1) hx hb hr (bn cks_b) (fun t ht hW => ⟨⟨(cks lo hi ST (fl cnt 1 KP) cnt NB).1, (), rfl, rfl, by rw [ht]; exact hP, va_K.moved hW.alike hK, hD⟩, hS.F ht⟩) hS.2.2 d_Nd_areSolved_28

set_option maxHeartbeats 4000000 in
set_option maxRecDepth 100000 in
theorem c1_Nd_areSolved (l : Launch) (dC : Nat → ClassId) (dI : Nat → Nat → Nat) (cI cL cZ : ClassId) (ad : Nat → Nat) (LO ST HI KP NB : Nat → Int32) (unk cnt : Nat) (sv sk ck : Int32) (hunk : unk ≤ 10) (hcnt : cnt ≤ 30) (h0 : ¬ sk = 0) (hsv : sv = 0 ∨ sv = 1) : Met l y_Nd_areSolved (cw_Nd_areSolved :: tb) (rmH 4 0 0) (va_Pc [.ref (ad 12)] (ry_P (dC, dI) classes (wNd cI cZ ad LO ST HI KP NB unk cnt sv sk ck) (tyI cI cL cZ))) (ry_S ry_i (fun r => r = sv)) 0 0 (fun _ => False) := by
  refine Met.ofW (cc := b_Nd_areSolved) (maxL := 1) (ret := (some .boolean)) (by decide +kernel) rfl ?_
  intro p e s m args below meth c s₁ B hml0 hv
  have C0 := cx_of B hml0 rfl
  obtain ⟨hx, hb, hr, hml, hown, htb, hlocks⟩ := id C0
  obtain ⟨rfl, hP, hK⟩ := hv
  have hl := lv_entry ([.ref (ad 12)]) (n := 1) (Nat.le_of_ble_eq_true rfl)
  rw [lg_entry_eq]
  generalize (lg_sl ([.ref (ad 12)]) ++ List.replicate (1 - (lg_sl ([.ref (ad 12)])).length) Slot.unset).toArray = ls at hl ⊢
  have hl : lv_has ls 1 [(0, .ref (ad 12))] := hl
  have hP : va_P (dC, dI) classes [((ad 12), .inr (3, [.ref (ad 13), .ref (ad 14), .ref (ad 15), .ref (ad 16), .ref (ad 17), .int (nI unk), .int (nI cnt), .int sv, .int sk, .int ck])), ((ad 13), .inl (cI, 30, .inl LO)), ((ad 14), .inl (cI, 30, .inl ST)), ((ad 15), .inl (cI, 30, .inl HI)), ((ad 16), .inl (cZ, 30, .inl KP)), ((ad 17), .inl (cI, 11, .inl NB))] s.heap := hP
  refine lv_aload_n hx hb d_Nd_areSolved_0 rfl (lv_at hl 0 rfl) ?_
  refine va_get (D := (dC, dI)) (ci := 3) (v := .int sk) (C := R_Nd) (T := F_Nd) (N := 10) hx hb htb ul_Nd hown hK hP 0 rfl rfl 8 (by decide) (htb _ mw_86) (fun _ h9 => h9) rfl d_Nd_areSolved_1 ?_
  refine lv_if_ne (tgt := 24) hx hb d_Nd_areSolved_4 (by decide) (fun c_4 => ?_) (fun c_4 => ?_)
  · refine lv_aload_n hx hb d_Nd_areSolved_24 rfl (lv_at hl 0 rfl) ?_
    refine va_get (D := (dC, dI)) (ci := 3) (v := .int sv) (C := R_Nd) (T := F_Nd) (N := 10) hx hb htb ul_Nd hown hK hP 0 rfl rfl 7 (by decide) (htb _ mw_85) (fun _ h9 => h9) rfl d_Nd_areSolved_25 ?_
    exact W.zret (v := sv) hx hb hr (bn hsv) (fun t ht hW => ⟨sv, rfl, rfl, ht⟩) (fun _ h => by cases h) d_Nd_areSolved_28
  · exact absurd c_4 h0

set_option maxHeartbeats 4000000 in
set_option maxRecDepth 100000 in
theorem lp_Nd_keepClashOnly {p : Program} (l : Launch) {e : Env} {s : State} {m : MethodId} {args : Array Value} {below : List Frame} {meth : Method} {c : Code} {Q : State → Prop} {A : Nat → Prop} {H0 : Heap} (C0 : cx p s m args meth c b_Nd_keepClashOnly 2 none R_Nd) (dC : Nat → ClassId) (dI : Nat → Nat → Nat) (cI cL cZ : ClassId) (ad : Nat → Nat) (LO ST HI : Nat → Int32) (unk cnt : Nat) (sv sk ck : Int32) (hunk : unk ≤ 10) (hcnt : cnt ≤ 30) (lo hi : Nat → Nat) (hlo : ∀ j, j < cnt → LO j = nI (lo j) ∧ lo j < 11) (hhi : ∀ j, j < cnt → HI j = nI (hi j) ∧ hi j < 11) (RR : (Nat → Int32) × (Nat → Int32)) (hK : va_K (dC, dI) classes (tyI cI cL cZ) s) (hA : ∀ q : Nat, H0.size ≤ q → A q) 
    (KB : ∀ (KP NB : Nat → Int32) (H : Heap) (locs : List Loc) (ls : Array Slot), RR = (KP, NB) → va_P (dC, dI) classes [((ad 12), .inr (3, [.ref (ad 13), .ref (ad 14), .ref (ad 15), .ref (ad 16), .ref (ad 17), .int (nI unk), .int (nI cnt), .int sv, .int sk, .int ck])), ((ad 13), .inl (cI, 30, .inl LO)), ((ad 14), .inl (cI, 30, .inl ST)), ((ad 15), .inl (cI, 30, .inl HI)), ((ad 16), .inl (cZ, 30, .inl KP)), ((ad 17), .inl (cI, 11, .inl NB))] H → va_D A [((ad 12), .inr (3, [.ref (ad 13), .ref (ad 14), .ref (ad 15), .ref (ad 16), .ref (ad 17), .int (nI unk), .int (nI cnt), .int sv, .int sk, .int ck])), ((ad 13), .inl (cI, 30, .inl LO)), ((ad 14), .inl (cI, 30, .inl ST)), ((ad 15), .inl (cI, 30, .inl HI)), ((ad 16), .inl (cZ, 30, .inl KP)), ((ad 17), .inl (cI, 11, .inl NB))] → va_S A H0 H locs → lv_has ls 2 [(0, .ref (ad 12))] → W p l e (rmH 4 0 0) s m args below meth c H locs 0 0 Q (F0 m 34 ls []))
    : ∀ (q : Nat) (KP NB : Nat → Int32), q ≤ cnt ∧ RR = kco lo hi ST cnt q KP NB → ∀ (H : Heap) (locs : List Loc) (ls : Array Slot), va_P (dC, dI) classes [((ad 12), .inr (3, [.ref (ad 13), .ref (ad 14), .ref (ad 15), .ref (ad 16), .ref (ad 17), .int (nI unk), .int (nI cnt), .int sv, .int sk, .int ck])), ((ad 13), .inl (cI, 30, .inl LO)), ((ad 14), .inl (cI, 30, .inl ST)), ((ad 15), .inl (cI, 30, .inl HI)), ((ad 16), .inl (cZ, 30, .inl KP)), ((ad 17), .inl (cI, 11, .inl NB))] H → va_D A [((ad 12), .inr (3, [.ref (ad 13), .ref (ad 14), .ref (ad 15), .ref (ad 16), .ref (ad 17), .int (nI unk), .int (nI cnt), .int sv, .int sk, .int ck])), ((ad 13), .inl (cI, 30, .inl LO)), ((ad 14), .inl (cI, 30, .inl ST)), ((ad 15), .inl (cI, 30, .inl HI)), ((ad 16), .inl (cZ, 30, .inl KP)), ((ad 17), .inl (cI, 11, .inl NB))] → va_S A H0 H locs → lv_has ls 2 [(0, .ref (ad 12)), (1, .int (nI q - 1))] → W p l e (rmH 4 0 0) s m args below meth c H locs 0 0 Q (F0 m 7 ls []) := by
  obtain ⟨hx, hb, hr, hml, hown, htb, hlocks⟩ := id C0
  intro q
  induction q with
  | zero =>
    intro KP NB hiV H locs ls hP hD hS hl
    obtain ⟨hi0, hR⟩ := hiV
    refine lv_iload_n hx hb d_Nd_keepClashOnly_7 rfl (lv_at hl 1 rfl) ?_
    refine lv_if_lt (tgt := 34) hx hb d_Nd_keepClashOnly_8 (by decide) (fun c_8 => ?_) (fun c_8 => ?_)
    · exact KB KP NB H locs ls hR hP hD hS (lv_sub hl [0] rfl)
    · exact absurd (by decide) c_8
  | succ q ih =>
    intro KP NB hiV H locs ls hP hD hS hl
    obtain ⟨hi0, hR⟩ := hiV
    refine lv_iload_n hx hb d_Nd_keepClashOnly_7 rfl (lv_at hl 1 rfl) ?_
    refine lv_if_lt (tgt := 34) hx hb d_Nd_keepClashOnly_8 (by decide) (fun c_8 => ?_) (fun c_8 => ?_)
    · exact absurd c_8 (by rw [nI_pred]; exact nI_pos (by omega))
    · rw [nI_pred] at hl
      refine lv_aload_n hx hb d_Nd_keepClashOnly_11 rfl (lv_at hl 0 rfl) ?_
      refine va_get (D := (dC, dI)) (ci := 3) (v := .ref (ad 16)) (C := R_Nd) (T := F_Nd) (N := 10) hx hb htb ul_Nd hown hK hP 0 rfl rfl 3 (by decide) (htb _ mw_81) (fun _ h9 => h9) rfl d_Nd_keepClashOnly_12 ?_
      refine lv_iload_n hx hb d_Nd_keepClashOnly_15 rfl (lv_at hl 1 rfl) ?_
      refine lv_iconst (v := 0) hx hb d_Nd_keepClashOnly_16 (by decide) ?_
      refine ry_zast (D := (dC, dI)) (j := q) hx hb hK hP hD hS 4 2 rfl rfl rfl (by omega) (by decide) d_Nd_keepClashOnly_17 (fun H locs hP hD hS => ?_)
      have hP : va_P (dC, dI) classes [((ad 12), .inr (3, [.ref (ad 13), .ref (ad 14), .ref (ad 15), .ref (ad 16), .ref (ad 17), .int (nI unk), .int (nI cnt), .int sv, .int sk, .int ck])), ((ad 13), .inl (cI, 30, .inl LO)), ((ad 14), .inl (cI, 30, .inl ST)), ((ad 15), .inl (cI, 30, .inl HI)), ((ad 16), .inl (cZ, 30, .inl (upd KP q 0))), ((ad 17), .inl (cI, 11, .inl NB))] H := hP
      have hD : va_D A [((ad 12), .inr (3, [.ref (ad 13), .ref (ad 14), .ref (ad 15), .ref (ad 16), .ref (ad 17), .int (nI unk), .int (nI cnt), .int sv, .int sk, .int ck])), ((ad 13), .inl (cI, 30, .inl LO)), ((ad 14), .inl (cI, 30, .inl ST)), ((ad 15), .inl (cI, 30, .inl HI)), ((ad 16), .inl (cZ, 30, .inl (upd KP q 0))), ((ad 17), .inl (cI, 11, .inl NB))] := hD
      refine lv_aload_n hx hb d_Nd_keepClashOnly_18 rfl (lv_at hl 0 rfl) ?_
      refine va_get (D := (dC, dI)) (ci := 3) (v := .ref (ad 16)) (C := R_Nd) (T := F_Nd) (N := 10) hx hb htb ul_Nd hown hK hP 0 rfl rfl 3 (by decide) (htb _ mw_81) (fun _ h9 => h9) rfl d_Nd_keepClashOnly_19 ?_
      refine lv_iload_n hx hb d_Nd_keepClashOnly_22 rfl (lv_at hl 1 rfl) ?_
      refine lv_aload_n hx hb d_Nd_keepClashOnly_23 rfl (lv_at hl 0 rfl) ?_
      refine wy_callV (n := 0) (wr := []) (As := []) (rest := [.int (nI q), .ref (ad 16)]) ⟨hx, hb, hml, hown, htb⟩ (c_Nd_canKeptBeSolved l dC dI cI cL cZ ad LO ST HI (upd KP q 0) NB unk cnt sv sk ck hunk hcnt lo hi hlo hhi H.size) (gV mw_159 mw_161 mp_2 mw_4 mc_Nd_canKeptBeSolved) rfl rfl (by decide +kernel) ⟨Nat.le_of_ble_eq_true rfl, Nat.le_of_ble_eq_true rfl⟩ hP hD hS hA hK [0, 1, 2, 3, 4, 5] [] rfl rfl (by decide) (by decide) (hP.sub [0, 1, 2, 3, 4, 5] rfl) ((hD.sub [0, 1, 2, 3, 4, 5] (by decide) rfl).weaken (fun _ _ _ _ => trivial)) (ci := 3) (q0 := 0) rfl rfl rfl rfl hl.1 rfl (Nat.le_of_ble_eq_true rfl) d_Nd_keepClashOnly_24 ⟨Nat.le_of_ble_eq_true rfl, Nat.le_of_ble_eq_true rfl⟩ (fun r u H locs hpost hP hD hS => ?_)
      obtain ⟨h1, h2⟩ := hpost
      subst h1; subst h2
      have hP : va_P (dC, dI) classes [((ad 12), .inr (3, [.ref (ad 13), .ref (ad 14), .ref (ad 15), .ref (ad 16), .ref (ad 17), .int (nI unk), .int (nI cnt), .int sv, .int sk, .int ck])), ((ad 13), .inl (cI, 30, .inl LO)), ((ad 14), .inl (cI, 30, .inl ST)), ((ad 15), .inl (cI, 30, .inl HI)), ((ad 16), .inl (cZ, 30, .inl (upd KP q 0))), ((ad 17), .inl (cI, 11, .inl ((cks lo hi ST (upd KP q 0) cnt NB).2)))] H := hP
      have hD : va_D A [((ad 12), .inr (3, [.ref (ad 13), .ref (ad 14), .ref (ad 15), .ref (ad 16), .ref (ad 17), .int (nI unk), .int (nI cnt), .int sv, .int sk, .int ck])), ((ad 13), .inl (cI, 30, .inl LO)), ((ad 14), .inl (cI, 30, .inl ST)), ((ad 15), .inl (cI, 30, .inl HI)), ((ad 16), .inl (cZ, 30, .inl (upd KP q 0))), ((ad 17), .inl (cI, 11, .inl ((cks lo hi ST (upd KP q 0) cnt NB).2)))] := hD
      refine W.eq (g2 := F0 m 27 ls [.int (cks lo hi ST (upd KP q 0) cnt NB).1, .int (nI q), .ref (ad 16)]) rfl ?_
      refine ry_zast (D := (dC, dI)) (j := q) hx hb hK hP hD hS 4 2 rfl rfl (bz cks_b) (by omega) (by decide) d_Nd_keepClashOnly_27 (fun H locs hP hD hS => ?_)
      have hP : va_P (dC, dI) classes [((ad 12), .inr (3, [.ref (ad 13), .ref (ad 14), .ref (ad 15), .ref (ad 16), .ref (ad 17), .int (nI unk), .int (nI cnt), .int sv, .int sk, .int ck])), ((ad 13), .inl (cI, 30, .inl LO)), ((ad 14), .inl (cI, 30, .inl ST)), ((ad 15), .inl (cI, 30, .inl HI)), ((ad 16), .inl (cZ, 30, .inl (upd (upd KP q 0) q ((cks lo hi ST (upd KP q 0) cnt NB).1)))), ((ad 17), .inl (cI, 11, .inl ((cks lo hi ST (upd KP q 0) cnt NB).2)))] H := hP
      have hD : va_D A [((ad 12), .inr (3, [.ref (ad 13), .ref (ad 14), .ref (ad 15), .ref (ad 16), .ref (ad 17), .int (nI unk), .int (nI cnt), .int sv, .int sk, .int ck])), ((ad 13), .inl (cI, 30, .inl LO)), ((ad 14), .inl (cI, 30, .inl ST)), ((ad 15), .inl (cI, 30, .inl HI)), ((ad 16), .inl (cZ, 30, .inl (upd (upd KP q 0) q ((cks lo hi ST (upd KP q 0) cnt NB).1)))), ((ad 17), .inl (cI, 11, .inl ((cks lo hi ST (upd KP q 0) cnt NB).2)))] := hD
      refine lv_iinc (v := nI q - 1) (lv' := [(1, .int (nI q - 1)), (0, .ref (ad 12))]) hx hb d_Nd_keepClashOnly_28 hl (k := 1) rfl (by rw [Int32.sub_eq_add_neg]; rfl) (by decide) rfl (fun ls hl => ?_)
      refine lv_goto (tgt := 7) hx hb d_Nd_keepClashOnly_31 (by decide) ?_
      exact ih (upd (upd KP q 0) q (cks lo hi ST (upd KP q 0) cnt NB).1) (cks lo hi ST (upd KP q 0) cnt NB).2 ⟨by omega, by rw [hR, kco]⟩ H locs ls hP hD hS (lv_sub hl [1, 0] rfl)

set_option maxHeartbeats 4000000 in
set_option maxRecDepth 100000 in
theorem c_Nd_keepClashOnly (l : Launch) (dC : Nat → ClassId) (dI : Nat → Nat → Nat) (cI cL cZ : ClassId) (ad : Nat → Nat) (LO ST HI KP NB : Nat → Int32) (unk cnt : Nat) (sv sk ck : Int32) (hunk : unk ≤ 10) (hcnt : cnt ≤ 30) (lo hi : Nat → Nat) (hlo : ∀ j, j < cnt → LO j = nI (lo j) ∧ lo j < 11) (hhi : ∀ j, j < cnt → HI j = nI (hi j) ∧ hi j < 11) (sz : Nat) : Met l y_Nd_keepClashOnly (cw_Nd_keepClashOnly :: tb) (rmH 4 0 0) (va_Pc [.ref (ad 12)] (wy_P (dC, dI) classes (wNd cI cZ ad LO ST HI KP NB unk cnt sv sk ck) (tyI cI cL cZ) sz)) (wy_Q ry_v (fun _ (u : (Nat → Int32) × (Nat → Int32)) => u = kco lo hi ST cnt cnt KP NB) (wy_B (dC, dI) classes (tyI cI cL cZ) (va_A (wNd cI cZ ad LO ST HI KP NB unk cnt sv sk ck) sz) (fun u : (Nat → Int32) × (Nat → Int32) => (wNd cI cZ ad LO ST HI u.1 u.2 unk cnt sv sk ck))) (va_A (wNd cI cZ ad LO ST HI KP NB unk cnt sv sk ck) sz)) 0 0 (va_A (wNd cI cZ ad LO ST HI KP NB unk cnt sv sk ck) sz) := by
  refine Met.ofW (cc := b_Nd_keepClashOnly) (maxL := 2) (ret := none) (by decide +kernel) rfl ?_
  intro p e s m args below meth c s₁ B hml0 hv
  have C0 := cx_of B hml0 rfl
  obtain ⟨hx, hb, hr, hml, hown, htb, hlocks⟩ := id C0
  obtain ⟨rfl, hsz, hP, hK, hD0⟩ := hv
  subst hsz
  have hD := hD0.self (sz := s.heap.size)
  generalize hAe : va_A (wNd cI cZ ad LO ST HI KP NB unk cnt sv sk ck) s.heap.size = A at hD ⊢
  have hA : ∀ q : Nat, s.heap.size ≤ q → A q := fun q h => by rw [← hAe]; exact Or.inr h
  have hS : va_S A s.heap s.heap [] := va_S.rf
  have hl := lv_entry ([.ref (ad 12)]) (n := 2) (Nat.le_of_ble_eq_true rfl)
  rw [lg_entry_eq]
  generalize (lg_sl ([.ref (ad 12)]) ++ List.replicate (2 - (lg_sl ([.ref (ad 12)])).length) Slot.unset).toArray = ls at hl ⊢
  have hl : lv_has ls 2 [(0, .ref (ad 12))] := hl
  have hP : va_P (dC, dI) classes [((ad 12), .inr (3, [.ref (ad 13), .ref (ad 14), .ref (ad 15), .ref (ad 16), .ref (ad 17), .int (nI unk), .int (nI cnt), .int sv, .int sk, .int ck])), ((ad 13), .inl (cI, 30, .inl LO)), ((ad 14), .inl (cI, 30, .inl ST)), ((ad 15), .inl (cI, 30, .inl HI)), ((ad 16), .inl (cZ, 30, .inl KP)), ((ad 17), .inl (cI, 11, .inl NB))] s.heap := hP
  have hD : va_D A [((ad 12), .inr (3, [.ref (ad 13), .ref (ad 14), .ref (ad 15), .ref (ad 16), .ref (ad 17), .int (nI unk), .int (nI cnt), .int sv, .int sk, .int ck])), ((ad 13), .inl (cI, 30, .inl LO)), ((ad 14), .inl (cI, 30, .inl ST)), ((ad 15), .inl (cI, 30, .inl HI)), ((ad 16), .inl (cZ, 30, .inl KP)), ((ad 17), .inl (cI, 11, .inl NB))] := hD
  have hA0 := hA
  refine lv_aload_n hx hb d_Nd_keepClashOnly_0 rfl (lv_at hl 0 rfl) ?_
  refine va_get (D := (dC, dI)) (ci := 3) (v := .int (nI cnt)) (C := R_Nd) (T := F_Nd) (N := 10) hx hb htb ul_Nd hown hK hP 0 rfl rfl 6 (by decide) (htb _ mw_84) (fun _ h9 => h9) rfl d_Nd_keepClashOnly_1 ?_
  refine lv_iconst (v := 1) hx hb d_Nd_keepClashOnly_4 (by decide) ?_
  refine lv_isub hx hb d_Nd_keepClashOnly_5 ?_
  refine lv_istore_n (lv' := [(1, .int ((nI cnt) - 1)), (0, .ref (ad 12))]) hx hb d_Nd_keepClashOnly_6 rfl hl (by decide) rfl (fun ls hl => ?_)
  refine lp_Nd_keepClashOnly l C0 dC dI cI cL cZ ad LO ST HI unk cnt sv sk ck hunk hcnt lo hi hlo hhi (kco lo hi ST cnt cnt KP NB) hK hA (fun KP9 NB9 H locs ls hR hP hD hS hl => ?_) cnt KP NB ⟨Nat.le_refl _, rfl⟩ s.heap [] ls hP hD hS (lv_sub hl [1, 0] rfl)
  exact W.vret hx hb hr (fun t ht hW => ⟨⟨(), (KP9, NB9), rfl, hR.symm, by rw [ht]; exact hP, va_K.moved hW.alike hK, hD⟩, hS.F ht⟩) hS.2.2 d_Nd_keepClashOnly_34
end
section
/-- a side of a need: NONE is the eleventh number -/
def sdI (x : Int32) : Int32 := if x = -1 then 10 else x
end
section
set_option maxHeartbeats 4000000 in
set_option maxRecDepth 100000 in
theorem c0_Nd_leastNumber (l : Launch) (dC : Nat → ClassId) (dI : Nat → Nat → Nat) (cI cL cZ : ClassId) (ad : Nat → Nat) (LO ST HI KP NB : Nat → Int32) (unk cnt : Nat) (sv sk ck : Int32) (hunk : unk ≤ 10) (hcnt : cnt ≤ 30) (x : Int32) (hxx : hs x unk = 0) : Met l y_Nd_leastNumber (cw_Nd_leastNumber :: tb) (rmH 5 0 0) (va_Pc [.ref (ad 12), .int x] (ry_P (dC, dI) classes (wNd cI cZ ad LO ST HI KP NB unk cnt sv sk ck) (tyI cI cL cZ))) (ry_S ry_i (fun r => r = -1)) 0 0 (fun _ => False) := by
  refine Met.ofW (cc := b_Nd_leastNumber) (maxL := 2) (ret := (some .int)) (by decide +kernel) rfl ?_
  intro p e s m args below meth c s₁ B hml0 hv
  have C0 := cx_of B hml0 rfl
  obtain ⟨hx, hb, hr, hml, hown, htb, hlocks⟩ := id C0
  obtain ⟨rfl, hP, hK⟩ := hv
  have hl := lv_entry ([.ref (ad 12), .int x]) (n := 2) (Nat.le_of_ble_eq_true rfl)
  rw [lg_entry_eq]
  generalize (lg_sl ([.ref (ad 12), .int x]) ++ List.replicate (2 - (lg_sl ([.ref (ad 12), .int x])).length) Slot.unset).toArray = ls at hl ⊢
  have hl : lv_has ls 2 [(0, .ref (ad 12)), (1, .int x)] := hl
  have hP : va_P (dC, dI) classes [((ad 12), .inr (3, [.ref (ad 13), .ref (ad 14), .ref (ad 15), .ref (ad 16), .ref (ad 17), .int (nI unk), .int (nI cnt), .int sv, .int sk, .int ck])), ((ad 13), .inl (cI, 30, .inl LO)), ((ad 14), .inl (cI, 30, .inl ST)), ((ad 15), .inl (cI, 30, .inl HI)), ((ad 16), .inl (cZ, 30, .inl KP)), ((ad 17), .inl (cI, 11, .inl NB))] s.heap := hP
  refine lv_aload_n hx hb d_Nd_leastNumber_0 rfl (lv_at hl 0 rfl) ?_
  refine lv_iload_n hx hb d_Nd_leastNumber_1 rfl (lv_at hl 1 rfl) ?_
  refine ry_callV (n := 1) (As := [.int x]) (rest := []) ⟨hx, hb, hml, hown, htb⟩ (c_Nd_isUnknown l dC dI cI cL cZ ad LO ST HI KP NB unk cnt sv sk ck hunk hcnt x) (gV mw_178 mw_180 mp_4 mw_4 mc_Nd_isUnknown) rfl rfl (by decide +kernel) ⟨Nat.le_of_ble_eq_true rfl, Nat.le_of_ble_eq_true rfl⟩ (hP.sub [0, 1, 2, 3, 4, 5] rfl) hK (ci := 3) (q0 := 0) rfl rfl rfl rfl hl.1 rfl (Nat.le_of_ble_eq_true rfl) d_Nd_leastNumber_2 ⟨Nat.zero_le _, Nat.zero_le _⟩ (fun r_1 hr_1 => ?_)
  subst hr_1
  refine W.eq (g2 := F0 m 5 ls [.int (hs x unk)]) rfl ?_
  refine lv_if_eq (tgt := 24) hx hb d_Nd_leastNumber_5 (by decide) (fun c_5 => ?_) (fun c_5 => ?_)
  · refine lv_iconst (v := (-1)) hx hb d_Nd_leastNumber_24 (by decide) ?_
    exact W.iret (v := (-1)) hx hb hr (fun t ht hW => ⟨(-1), rfl, rfl, ht⟩) (fun _ h => by cases h) d_Nd_leastNumber_25
  · exact absurd hxx c_5

set_option maxHeartbeats 4000000 in
set_option maxRecDepth 100000 in
theorem c1_Nd_leastNumber (l : Launch) (dC : Nat → ClassId) (dI : Nat → Nat → Nat) (cI cL cZ : ClassId) (ad : Nat → Nat) (LO ST HI KP NB : Nat → Int32) (unk cnt : Nat) (sv sk ck : Int32) (hunk : unk ≤ 10) (hcnt : cnt ≤ 30) (j : Nat) (hj : j < unk) (hxx : hs (nI j) unk = 1) (h0 : ¬ sk = 0) (hsv : sv = 0 ∨ sv = 1) : Met l y_Nd_leastNumber (cw_Nd_leastNumber :: tb) (rmH 5 0 0) (va_Pc [.ref (ad 12), .int (nI j)] (ry_P (dC, dI) classes (wNd cI cZ ad LO ST HI KP NB unk cnt sv sk ck) (tyI cI cL cZ))) (ry_S ry_i (fun r => r = if sv = 0 then -1 else NB j)) 0 0 (fun _ => False) := by
  refine Met.ofW (cc := b_Nd_leastNumber) (maxL := 2) (ret := (some .int)) (by decide +kernel) rfl ?_
  intro p e s m args below meth c s₁ B hml0 hv
  have C0 := cx_of B hml0 rfl
  obtain ⟨hx, hb, hr, hml, hown, htb, hlocks⟩ := id C0
  obtain ⟨rfl, hP, hK⟩ := hv
  have hl := lv_entry ([.ref (ad 12), .int (nI j)]) (n := 2) (Nat.le_of_ble_eq_true rfl)
  rw [lg_entry_eq]
  generalize (lg_sl ([.ref (ad 12), .int (nI j)]) ++ List.replicate (2 - (lg_sl ([.ref (ad 12), .int (nI j)])).length) Slot.unset).toArray = ls at hl ⊢
  have hl : lv_has ls 2 [(0, .ref (ad 12)), (1, .int (nI j))] := hl
  have hP : va_P (dC, dI) classes [((ad 12), .inr (3, [.ref (ad 13), .ref (ad 14), .ref (ad 15), .ref (ad 16), .ref (ad 17), .int (nI unk), .int (nI cnt), .int sv, .int sk, .int ck])), ((ad 13), .inl (cI, 30, .inl LO)), ((ad 14), .inl (cI, 30, .inl ST)), ((ad 15), .inl (cI, 30, .inl HI)), ((ad 16), .inl (cZ, 30, .inl KP)), ((ad 17), .inl (cI, 11, .inl NB))] s.heap := hP
  refine lv_aload_n hx hb d_Nd_leastNumber_0 rfl (lv_at hl 0 rfl) ?_
  refine lv_iload_n hx hb d_Nd_leastNumber_1 rfl (lv_at hl 1 rfl) ?_
  refine ry_callV (n := 1) (As := [.int (nI j)]) (rest := []) ⟨hx, hb, hml, hown, htb⟩ (c_Nd_isUnknown l dC dI cI cL cZ ad LO ST HI KP NB unk cnt sv sk ck hunk hcnt (nI j)) (gV mw_178 mw_180 mp_4 mw_4 mc_Nd_isUnknown) rfl rfl (by decide +kernel) ⟨Nat.le_of_ble_eq_true rfl, Nat.le_of_ble_eq_true rfl⟩ (hP.sub [0, 1, 2, 3, 4, 5] rfl) hK (ci := 3) (q0 := 0) rfl rfl rfl rfl hl.1 rfl (Nat.le_of_ble_eq_true rfl) d_Nd_leastNumber_2 ⟨Nat.zero_le _, Nat.zero_le _⟩ (fun r_1 hr_1 => ?_)
  subst hr_1
  refine W.eq (g2 := F0 m 5 ls [.int (hs (nI j) unk)]) rfl ?_
  refine lv_if_eq (tgt := 24) hx hb d_Nd_leastNumber_5 (by decide) (fun c_5 => ?_) (fun c_5 => ?_)
  · exact absurd (hxx.symm.trans c_5) (by decide)
  · refine lv_aload_n hx hb d_Nd_leastNumber_8 rfl (lv_at hl 0 rfl) ?_
    refine ry_callV (n := 0) (As := []) (rest := []) ⟨hx, hb, hml, hown, htb⟩ (c1_Nd_areSolved l dC dI cI cL cZ ad LO ST HI KP NB unk cnt sv sk ck hunk hcnt h0 hsv) (gV mw_182 mw_152 mw_153 mw_4 mc_Nd_areSolved) rfl rfl (by decide +kernel) ⟨Nat.le_of_ble_eq_true rfl, Nat.le_of_ble_eq_true rfl⟩ (hP.sub [0, 1, 2, 3, 4, 5] rfl) hK (ci := 3) (q0 := 0) rfl rfl rfl rfl hl.1 rfl (Nat.le_of_ble_eq_true rfl) d_Nd_leastNumber_9 ⟨Nat.zero_le _, Nat.zero_le _⟩ (fun r_2 hr_2 => ?_)
    rw [hr_2]
    refine W.eq (g2 := F0 m 12 ls [.int sv]) rfl ?_
    refine lv_if_eq (tgt := 24) hx hb d_Nd_leastNumber_12 (by decide) (fun c_12 => ?_) (fun c_12 => ?_)
    · refine lv_iconst (v := (-1)) hx hb d_Nd_leastNumber_24 (by decide) ?_
      exact W.iret (v := (-1)) hx hb hr (fun t ht hW => ⟨(-1), rfl, (by rw [if_pos c_12]), ht⟩) (fun _ h => by cases h) d_Nd_leastNumber_25
    · refine lv_aload_n hx hb d_Nd_leastNumber_15 rfl (lv_at hl 0 rfl) ?_
      refine va_get (D := (dC, dI)) (ci := 3) (v := .ref (ad 17)) (C := R_Nd) (T := F_Nd) (N := 10) hx hb htb ul_Nd hown hK hP 0 rfl rfl 4 (by decide) (htb _ mw_82) (fun _ h9 => h9) rfl d_Nd_leastNumber_16 ?_
      refine lv_iload_n hx hb d_Nd_leastNumber_19 rfl (lv_at hl 1 rfl) ?_
      refine ry_iald (D := (dC, dI)) (j := j) hx hb hK hP 5 0 rfl rfl (by omega) (by decide) d_Nd_leastNumber_20 ?_
      refine lv_goto (tgt := 25) hx hb d_Nd_leastNumber_21 (by decide) ?_
      exact W.iret (v := (NB j)) hx hb hr (fun t ht hW => ⟨(NB j), rfl, (by rw [if_neg c_12]), ht⟩) (fun _ h => by cases h) d_Nd_leastNumber_25

set_option maxHeartbeats 4000000 in
set_option maxRecDepth 100000 in
theorem c_Nd_leastNumber (l : Launch) (dC : Nat → ClassId) (dI : Nat → Nat → Nat) (cI cL cZ : ClassId) (ad : Nat → Nat) (LO ST HI KP NB : Nat → Int32) (unk cnt : Nat) (sv sk ck : Int32) (hunk : unk ≤ 10) (hcnt : cnt ≤ 30) (lo hi : Nat → Nat) (hlo : ∀ j, j < cnt → LO j = nI (lo j) ∧ lo j < 11) (hhi : ∀ j, j < cnt → HI j = nI (hi j) ∧ hi j < 11) (j : Nat) (hj : j < unk) (hxx : hs (nI j) unk = 1) (h0 : sk = 0) (sz : Nat) : Met l y_Nd_leastNumber (cw_Nd_leastNumber :: tb) (rmH 5 0 0) (va_Pc [.ref (ad 12), .int (nI j)] (wy_P (dC, dI) classes (wNd cI cZ ad LO ST HI KP NB unk cnt sv sk ck) (tyI cI cL cZ) sz)) (wy_Q ry_i (fun r (u : Unit) => r = if (cks lo hi ST (fl cnt 1 KP) cnt NB).1 = 0 then -1 else (cks lo hi ST (fl cnt 1 KP) cnt NB).2 j) (wy_B (dC, dI) classes (tyI cI cL cZ) (va_A (wNd cI cZ ad LO ST HI KP NB unk cnt sv sk ck) sz) (fun u : Unit => (wNd cI cZ ad LO ST HI (fl cnt 1 KP) (cks lo hi ST (fl cnt 1 KP) cnt NB).2 unk cnt (cks lo hi ST (fl cnt 1 KP) cnt NB).1 1 ck))) (va_A (wNd cI cZ ad LO ST HI KP NB unk cnt sv sk ck) sz)) 0 0 (va_A (wNd cI cZ ad LO ST HI KP NB unk cnt sv sk ck) sz) := by
  refine Met.ofW (cc := b_Nd_leastNumber) (maxL := 2) (ret := (some .int)) (by decide +kernel) rfl ?_
  intro p e s m args below meth c s₁ B hml0 hv
  have C0 := cx_of B hml0 rfl
  obtain ⟨hx, hb, hr, hml, hown, htb, hlocks⟩ := id C0
  obtain ⟨rfl, hsz, hP, hK, hD0⟩ := hv
  subst hsz
  have hD := hD0.self (sz := s.heap.size)
  generalize hAe : va_A (wNd cI cZ ad LO ST HI KP NB unk cnt sv sk ck) s.heap.size = A at hD ⊢
  have hA : ∀ q : Nat, s.heap.size ≤ q → A q := fun q h => by rw [← hAe]; exact Or.inr h
  have hS : va_S A s.heap s.heap [] := va_S.rf
  have hl := lv_entry ([.ref (ad 12), .int (nI j)]) (n := 2) (Nat.le_of_ble_eq_true rfl)
  rw [lg_entry_eq]
  generalize (lg_sl ([.ref (ad 12), .int (nI j)]) ++ List.replicate (2 - (lg_sl ([.ref (ad 12), .int (nI j)])).length) Slot.unset).toArray = ls at hl ⊢
  have hl : lv_has ls 2 [(0, .ref (ad 12)), (1, .int (nI j))] := hl
  have hP : va_P (dC, dI) classes [((ad 12), .inr (3, [.ref (ad 13), .ref (ad 14), .ref (ad 15), .ref (ad 16), .ref (ad 17), .int (nI unk), .int (nI cnt), .int sv, .int sk, .int ck])), ((ad 13), .inl (cI, 30, .inl LO)), ((ad 14), .inl (cI, 30, .inl ST)), ((ad 15), .inl (cI, 30, .inl HI)), ((ad 16), .inl (cZ, 30, .inl KP)), ((ad 17), .inl (cI, 11, .inl NB))] s.heap := hP
  have hD : va_D A [((ad 12), .inr (3, [.ref (ad 13), .ref (ad 14), .ref (ad 15), .ref (ad 16), .ref (ad 17), .int (nI unk), .int (nI cnt), .int sv, .int sk, .int ck])), ((ad 13), .inl (cI, 30, .inl LO)), ((ad 14), .inl (cI, 30, .inl ST)), ((ad 15), .inl (cI, 30, .inl HI)), ((ad 16), .inl (cZ, 30, .inl KP)), ((ad 17), .inl (cI, 11, .inl NB))] := hD
  have hA0 := hA
  refine lv_aload_n hx hb d_Nd_leastNumber_0 rfl (lv_at hl 0 rfl) ?_
  refine lv_iload_n hx hb d_Nd_leastNumber_1 rfl (lv_at hl 1 rfl) ?_
  refine ry_callV (n := 1) (As := [.int (nI j)]) (rest := []) ⟨hx, hb, hml, hown, htb⟩ (c_Nd_isUnknown l dC dI cI cL cZ ad LO ST HI KP NB unk cnt sv sk ck hunk hcnt (nI j)) (gV mw_178 mw_180 mp_4 mw_4 mc_Nd_isUnknown) rfl rfl (by decide +kernel) ⟨Nat.le_of_ble_eq_true rfl, Nat.le_of_ble_eq_true rfl⟩ (hP.sub [0, 1, 2, 3, 4, 5] rfl) hK (ci := 3) (q0 := 0) rfl rfl rfl rfl hl.1 rfl (Nat.le_of_ble_eq_true rfl) d_Nd_leastNumber_2 ⟨Nat.zero_le _, Nat.zero_le _⟩ (fun r_1 hr_1 => ?_)
  subst hr_1
  refine W.eq (g2 := F0 m 5 ls [.int (hs (nI j) unk)]) rfl ?_
  refine lv_if_eq (tgt := 24) hx hb d_Nd_leastNumber_5 (by decide) (fun c_5 => ?_) (fun c_5 => ?_)
  · exact absurd (hxx.symm.trans c_5) (by decide)
  · refine lv_aload_n hx hb d_Nd_leastNumber_8 rfl (lv_at hl 0 rfl) ?_
    refine wy_callV (n := 0) (wr := []) (As := []) (rest := []) ⟨hx, hb, hml, hown, htb⟩ (c_Nd_areSolved l dC dI cI cL cZ ad LO ST HI KP NB unk cnt sv sk ck hunk hcnt lo hi hlo hhi h0 s.heap.size) (gV mw_182 mw_152 mw_153 mw_4 mc_Nd_areSolved) rfl rfl (by decide +kernel) ⟨Nat.le_of_ble_eq_true rfl, Nat.le_of_ble_eq_true rfl⟩ hP hD hS hA hK [0, 1, 2, 3, 4, 5] [] rfl rfl (by decide) (by decide) (hP.sub [0, 1, 2, 3, 4, 5] rfl) ((hD.sub [0, 1, 2, 3, 4, 5] (by decide) rfl).weaken (fun _ _ _ _ => trivial)) (ci := 3) (q0 := 0) rfl rfl rfl rfl hl.1 rfl (Nat.le_of_ble_eq_true rfl) d_Nd_leastNumber_9 ⟨Nat.le_of_ble_eq_true rfl, Nat.le_of_ble_eq_true rfl⟩ (fun r u H locs hpost hP hD hS => ?_)
    subst hpost
    have hP : va_P (dC, dI) classes [((ad 12), .inr (3, [.ref (ad 13), .ref (ad 14), .ref (ad 15), .ref (ad 16), .ref (ad 17), .int (nI unk), .int (nI cnt), .int (cks lo hi ST (fl cnt 1 KP) cnt NB).1, .int 1, .int ck])), ((ad 13), .inl (cI, 30, .inl LO)), ((ad 14), .inl (cI, 30, .inl ST)), ((ad 15), .inl (cI, 30, .inl HI)), ((ad 16), .inl (cZ, 30, .inl (fl cnt 1 KP))), ((ad 17), .inl (cI, 11, .inl ((cks lo hi ST (fl cnt 1 KP) cnt NB).2)))] H := hP
    have hD : va_D A [((ad 12), .inr (3, [.ref (ad 13), .ref (ad 14), .ref (ad 15), .ref (ad 16), .ref (ad 17), .int (nI unk), .int (nI cnt), .int (cks lo hi ST (fl cnt 1 KP) cnt NB).1, .int 1, .int ck])), ((ad 13), .inl (cI, 30, .inl LO)), ((ad 14), .inl (cI, 30, .inl ST)), ((ad 15), .inl (cI, 30, .inl HI)), ((ad 16), .inl (cZ, 30, .inl (fl cnt 1 KP))), ((ad 17), .inl (cI, 11, .inl ((cks lo hi ST (fl cnt 1 KP) cnt NB).2)))] := hD
    refine W.eq (g2 := F0 m 12 ls [.int (cks lo hi ST (fl cnt 1 KP) cnt NB).1]) rfl ?_
    refine lv_if_eq (tgt := 24) hx hb d_Nd_leastNumber_12 (by decide) (fun c_12 => ?_) (fun c_12 => ?_)
    · refine lv_iconst (v := (-1)) hx hb d_Nd_leastNumber_24 (by decide) ?_
      exact W.iret (v := (-1)) hx hb hr (fun t ht hW => ⟨⟨(-1), (), rfl, (by rw [if_pos c_12]), by rw [ht]; exact hP, va_K.moved hW.alike hK, hD⟩, hS.F ht⟩) hS.2.2 d_Nd_leastNumber_25
    · refine lv_aload_n hx hb d_Nd_leastNumber_15 rfl (lv_at hl 0 rfl) ?_
      refine va_get (D := (dC, dI)) (ci := 3) (v := .ref (ad 17)) (C := R_Nd) (T := F_Nd) (N := 10) hx hb htb ul_Nd hown hK hP 0 rfl rfl 4 (by decide) (htb _ mw_82) (fun _ h9 => h9) rfl d_Nd_leastNumber_16 ?_
      refine lv_iload_n hx hb d_Nd_leastNumber_19 rfl (lv_at hl 1 rfl) ?_
      refine ry_iald (D := (dC, dI)) (j := j) hx hb hK hP 5 0 rfl rfl (by omega) (by decide) d_Nd_leastNumber_20 ?_
      refine lv_goto (tgt := 25) hx hb d_Nd_leastNumber_21 (by decide) ?_
      exact W.iret (v := (((cks lo hi ST (fl cnt 1 KP) cnt NB).2) j)) hx hb hr (fun t ht hW => ⟨⟨(((cks lo hi ST (fl cnt 1 KP) cnt NB).2) j), (), rfl, (by rw [if_neg c_12]), by rw [ht]; exact hP, va_K.moved hW.alike hK, hD⟩, hS.F ht⟩) hS.2.2 d_Nd_leastNumber_25

set_option maxHeartbeats 4000000 in
set_option maxRecDepth 100000 in
theorem c0_Nd_isInClash (l : Launch) (dC : Nat → ClassId) (dI : Nat → Nat → Nat) (cI cL cZ : ClassId) (ad : Nat → Nat) (LO ST HI KP NB : Nat → Int32) (unk cnt : Nat) (sv sk ck : Int32) (hunk : unk ≤ 10) (hcnt : cnt ≤ 30) (x : Int32) (hxx : hs x cnt = 0) : Met l y_Nd_isInClash (cw_Nd_isInClash :: tb) (rmH 6 0 0) (va_Pc [.ref (ad 12), .int x] (ry_P (dC, dI) classes (wNd cI cZ ad LO ST HI KP NB unk cnt sv sk ck) (tyI cI cL cZ))) (ry_S ry_i (fun r => r = 0)) 0 0 (fun _ => False) := by
  refine Met.ofW (cc := b_Nd_isInClash) (maxL := 2) (ret := (some .boolean)) (by decide +kernel) rfl ?_
  intro p e s m args below meth c s₁ B hml0 hv
  have C0 := cx_of B hml0 rfl
  obtain ⟨hx, hb, hr, hml, hown, htb, hlocks⟩ := id C0
  obtain ⟨rfl, hP, hK⟩ := hv
  have hl := lv_entry ([.ref (ad 12), .int x]) (n := 2) (Nat.le_of_ble_eq_true rfl)
  rw [lg_entry_eq]
  generalize (lg_sl ([.ref (ad 12), .int x]) ++ List.replicate (2 - (lg_sl ([.ref (ad 12), .int x])).length) Slot.unset).toArray = ls at hl ⊢
  have hl : lv_has ls 2 [(0, .ref (ad 12)), (1, .int x)] := hl
  have hP : va_P (dC, dI) classes [((ad 12), .inr (3, [.ref (ad 13), .ref (ad 14), .ref (ad 15), .ref (ad 16), .ref (ad 17), .int (nI unk), .int (nI cnt), .int sv, .int sk, .int ck])), ((ad 13), .inl (cI, 30, .inl LO)), ((ad 14), .inl (cI, 30, .inl ST)), ((ad 15), .inl (cI, 30, .inl HI)), ((ad 16), .inl (cZ, 30, .inl KP)), ((ad 17), .inl (cI, 11, .inl NB))] s.heap := hP
  refine lv_iload_n hx hb d_Nd_isInClash_0 rfl (lv_at hl 1 rfl) ?_
  refine lv_if_lt (tgt := 19) hx hb d_Nd_isInClash_1 (by decide) (fun c_1 => ?_) (fun c_1 => ?_)
  · refine lv_iconst (v := 0) hx hb d_Nd_isInClash_19 (by decide) ?_
    exact W.zret (v := 0) hx hb hr rfl (fun t ht hW => ⟨0, rfl, rfl, ht⟩) (fun _ h => by cases h) d_Nd_isInClash_20
  · refine lv_iload_n hx hb d_Nd_isInClash_4 rfl (lv_at hl 1 rfl) ?_
    refine lv_aload_n hx hb d_Nd_isInClash_5 rfl (lv_at hl 0 rfl) ?_
    refine va_get (D := (dC, dI)) (ci := 3) (v := .int (nI cnt)) (C := R_Nd) (T := F_Nd) (N := 10) hx hb htb ul_Nd hown hK hP 0 rfl rfl 6 (by decide) (htb _ mw_84) (fun _ h9 => h9) rfl d_Nd_isInClash_6 ?_
    refine lv_icmp_ge (tgt := 19) hx hb d_Nd_isInClash_9 (by decide) (fun c_9 => ?_) (fun c_9 => ?_)
    · refine lv_iconst (v := 0) hx hb d_Nd_isInClash_19 (by decide) ?_
      exact W.zret (v := 0) hx hb hr rfl (fun t ht hW => ⟨0, rfl, rfl, ht⟩) (fun _ h => by cases h) d_Nd_isInClash_20
    · exact absurd hxx (by rw [hs, if_neg c_1, if_neg c_9]; decide)

set_option maxHeartbeats 4000000 in
set_option maxRecDepth 100000 in
theorem c1_Nd_isInClash (l : Launch) (dC : Nat → ClassId) (dI : Nat → Nat → Nat) (cI cL cZ : ClassId) (ad : Nat → Nat) (LO ST HI KP NB : Nat → Int32) (unk cnt : Nat) (sv sk ck : Int32) (hunk : unk ≤ 10) (hcnt : cnt ≤ 30) (j : Nat) (hj : j < cnt) (h0 : ¬ sk = 0) (hsv : sv = 0 ∨ sv = 1) (h1 : ¬ sv = 0) : Met l y_Nd_isInClash (cw_Nd_isInClash :: tb) (rmH 6 0 0) (va_Pc [.ref (ad 12), .int (nI j)] (ry_P (dC, dI) classes (wNd cI cZ ad LO ST HI KP NB unk cnt sv sk ck) (tyI cI cL cZ))) (ry_S ry_i (fun r => r = 0)) 0 0 (fun _ => False) := by
  refine Met.ofW (cc := b_Nd_isInClash) (maxL := 2) (ret := (some .boolean)) (by decide +kernel) rfl ?_
  intro p e s m args below meth c s₁ B hml0 hv
  have C0 := cx_of B hml0 rfl
  obtain ⟨hx, hb, hr, hml, hown, htb, hlocks⟩ := id C0
  obtain ⟨rfl, hP, hK⟩ := hv
  have hl := lv_entry ([.ref (ad 12), .int (nI j)]) (n := 2) (Nat.le_of_ble_eq_true rfl)
  rw [lg_entry_eq]
  generalize (lg_sl ([.ref (ad 12), .int (nI j)]) ++ List.replicate (2 - (lg_sl ([.ref (ad 12), .int (nI j)])).length) Slot.unset).toArray = ls at hl ⊢
  have hl : lv_has ls 2 [(0, .ref (ad 12)), (1, .int (nI j))] := hl
  have hP : va_P (dC, dI) classes [((ad 12), .inr (3, [.ref (ad 13), .ref (ad 14), .ref (ad 15), .ref (ad 16), .ref (ad 17), .int (nI unk), .int (nI cnt), .int sv, .int sk, .int ck])), ((ad 13), .inl (cI, 30, .inl LO)), ((ad 14), .inl (cI, 30, .inl ST)), ((ad 15), .inl (cI, 30, .inl HI)), ((ad 16), .inl (cZ, 30, .inl KP)), ((ad 17), .inl (cI, 11, .inl NB))] s.heap := hP
  refine lv_iload_n hx hb d_Nd_isInClash_0 rfl (lv_at hl 1 rfl) ?_
  refine lv_if_lt (tgt := 19) hx hb d_Nd_isInClash_1 (by decide) (fun c_1 => ?_) (fun c_1 => ?_)
  · exact absurd c_1 (nI_pos (by omega))
  · refine lv_iload_n hx hb d_Nd_isInClash_4 rfl (lv_at hl 1 rfl) ?_
    refine lv_aload_n hx hb d_Nd_isInClash_5 rfl (lv_at hl 0 rfl) ?_
    refine va_get (D := (dC, dI)) (ci := 3) (v := .int (nI cnt)) (C := R_Nd) (T := F_Nd) (N := 10) hx hb htb ul_Nd hown hK hP 0 rfl rfl 6 (by decide) (htb _ mw_84) (fun _ h9 => h9) rfl d_Nd_isInClash_6 ?_
    refine lv_icmp_ge (tgt := 19) hx hb d_Nd_isInClash_9 (by decide) (fun c_9 => ?_) (fun c_9 => ?_)
    · exact absurd ((nI_leI (by omega) (by omega)).mp c_9) (by omega)
    · refine lv_aload_n hx hb d_Nd_isInClash_12 rfl (lv_at hl 0 rfl) ?_
      refine ry_callV (n := 0) (As := []) (rest := []) ⟨hx, hb, hml, hown, htb⟩ (c1_Nd_areSolved l dC dI cI cL cZ ad LO ST HI KP NB unk cnt sv sk ck hunk hcnt h0 hsv) (gV mw_182 mw_152 mw_153 mw_4 mc_Nd_areSolved) rfl rfl (by decide +kernel) ⟨Nat.le_of_ble_eq_true rfl, Nat.le_of_ble_eq_true rfl⟩ (hP.sub [0, 1, 2, 3, 4, 5] rfl) hK (ci := 3) (q0 := 0) rfl rfl rfl rfl hl.1 rfl (Nat.le_of_ble_eq_true rfl) d_Nd_isInClash_13 ⟨Nat.zero_le _, Nat.zero_le _⟩ (fun r_1 hr_1 => ?_)
      rw [hr_1]
      refine W.eq (g2 := F0 m 16 ls [.int sv]) rfl ?_
      refine lv_if_eq (tgt := 21) hx hb d_Nd_isInClash_16 (by decide) (fun c_16 => ?_) (fun c_16 => ?_)
      · exact absurd c_16 h1
      · refine lv_iconst (v := 0) hx hb d_Nd_isInClash_19 (by decide) ?_
        exact W.zret (v := 0) hx hb hr rfl (fun t ht hW => ⟨0, rfl, rfl, ht⟩) (fun _ h => by cases h) d_Nd_isInClash_20

set_option maxHeartbeats 4000000 in
set_option maxRecDepth 100000 in
theorem c2_Nd_isInClash (l : Launch) (dC : Nat → ClassId) (dI : Nat → Nat → Nat) (cI cL cZ : ClassId) (ad : Nat → Nat) (LO ST HI KP NB : Nat → Int32) (unk cnt : Nat) (sv sk ck : Int32) (hunk : unk ≤ 10) (hcnt : cnt ≤ 30) (j : Nat) (hj : j < cnt) (h0 : ¬ sk = 0) (hsv : sv = 0 ∨ sv = 1) (h1 : sv = 0) (h2 : ¬ ck = 0) (hkp : ∀ j, j < cnt → KP j = 0 ∨ KP j = 1) : Met l y_Nd_isInClash (cw_Nd_isInClash :: tb) (rmH 6 0 0) (va_Pc [.ref (ad 12), .int (nI j)] (ry_P (dC, dI) classes (wNd cI cZ ad LO ST HI KP NB unk cnt sv sk ck) (tyI cI cL cZ))) (ry_S ry_i (fun r => r = KP j)) 0 0 (fun _ => False) := by
  refine Met.ofW (cc := b_Nd_isInClash) (maxL := 2) (ret := (some .boolean)) (by decide +kernel) rfl ?_
  intro p e s m args below meth c s₁ B hml0 hv
  have C0 := cx_of B hml0 rfl
  obtain ⟨hx, hb, hr, hml, hown, htb, hlocks⟩ := id C0
  obtain ⟨rfl, hP, hK⟩ := hv
  have hl := lv_entry ([.ref (ad 12), .int (nI j)]) (n := 2) (Nat.le_of_ble_eq_true rfl)
  rw [lg_entry_eq]
  generalize (lg_sl ([.ref (ad 12), .int (nI j)]) ++ List.replicate (2 - (lg_sl ([.ref (ad 12), .int (nI j)])).length) Slot.unset).toArray = ls at hl ⊢
  have hl : lv_has ls 2 [(0, .ref (ad 12)), (1, .int (nI j))] := hl
  have hP : va_P (dC, dI) classes [((ad 12), .inr (3, [.ref (ad 13), .ref (ad 14), .ref (ad 15), .ref (ad 16), .ref (ad 17), .int (nI unk), .int (nI cnt), .int sv, .int sk, .int ck])), ((ad 13), .inl (cI, 30, .inl LO)), ((ad 14), .inl (cI, 30, .inl ST)), ((ad 15), .inl (cI, 30, .inl HI)), ((ad 16), .inl (cZ, 30, .inl KP)), ((ad 17), .inl (cI, 11, .inl NB))] s.heap := hP
  refine lv_iload_n hx hb d_Nd_isInClash_0 rfl (lv_at hl 1 rfl) ?_
  refine lv_if_lt (tgt := 19) hx hb d_Nd_isInClash_1 (by decide) (fun c_1 => ?_) (fun c_1 => ?_)
  · exact absurd c_1 (nI_pos (by omega))
  · refine lv_iload_n hx hb d_Nd_isInClash_4 rfl (lv_at hl 1 rfl) ?_
    refine lv_aload_n hx hb d_Nd_isInClash_5 rfl (lv_at hl 0 rfl) ?_
    refine va_get (D := (dC, dI)) (ci := 3) (v := .int (nI cnt)) (C := R_Nd) (T := F_Nd) (N := 10) hx hb htb ul_Nd hown hK hP 0 rfl rfl 6 (by decide) (htb _ mw_84) (fun _ h9 => h9) rfl d_Nd_isInClash_6 ?_
    refine lv_icmp_ge (tgt := 19) hx hb d_Nd_isInClash_9 (by decide) (fun c_9 => ?_) (fun c_9 => ?_)
    · exact absurd ((nI_leI (by omega) (by omega)).mp c_9) (by omega)
    · refine lv_aload_n hx hb d_Nd_isInClash_12 rfl (lv_at hl 0 rfl) ?_
      refine ry_callV (n := 0) (As := []) (rest := []) ⟨hx, hb, hml, hown, htb⟩ (c1_Nd_areSolved l dC dI cI cL cZ ad LO ST HI KP NB unk cnt sv sk ck hunk hcnt h0 hsv) (gV mw_182 mw_152 mw_153 mw_4 mc_Nd_areSolved) rfl rfl (by decide +kernel) ⟨Nat.le_of_ble_eq_true rfl, Nat.le_of_ble_eq_true rfl⟩ (hP.sub [0, 1, 2, 3, 4, 5] rfl) hK (ci := 3) (q0 := 0) rfl rfl rfl rfl hl.1 rfl (Nat.le_of_ble_eq_true rfl) d_Nd_isInClash_13 ⟨Nat.zero_le _, Nat.zero_le _⟩ (fun r_1 hr_1 => ?_)
      rw [hr_1]
      refine W.eq (g2 := F0 m 16 ls [.int sv]) rfl ?_
      refine lv_if_eq (tgt := 21) hx hb d_Nd_isInClash_16 (by decide) (fun c_16 => ?_) (fun c_16 => ?_)
      · refine lv_aload_n hx hb d_Nd_isInClash_21 rfl (lv_at hl 0 rfl) ?_
        refine va_get (D := (dC, dI)) (ci := 3) (v := .int ck) (C := R_Nd) (T := F_Nd) (N := 10) hx hb htb ul_Nd hown hK hP 0 rfl rfl 9 (by decide) (htb _ mw_87) (fun _ h9 => h9) rfl d_Nd_isInClash_22 ?_
        refine lv_if_ne (tgt := 37) hx hb d_Nd_isInClash_25 (by decide) (fun c_25 => ?_) (fun c_25 => ?_)
        · refine lv_aload_n hx hb d_Nd_isInClash_37 rfl (lv_at hl 0 rfl) ?_
          refine va_get (D := (dC, dI)) (ci := 3) (v := .ref (ad 16)) (C := R_Nd) (T := F_Nd) (N := 10) hx hb htb ul_Nd hown hK hP 0 rfl rfl 3 (by decide) (htb _ mw_81) (fun _ h9 => h9) rfl d_Nd_isInClash_38 ?_
          refine lv_iload_n hx hb d_Nd_isInClash_41 rfl (lv_at hl 1 rfl) ?_
          refine ry_zald (D := (dC, dI)) (j := j) hx hb hK hP 4 2 rfl rfl (by omega) (by decide) d_Nd_isInClash_42 ?_
          exact W.zret (v := (KP j)) hx hb hr (bn (hkp j hj)) (fun t ht hW => ⟨(KP j), rfl, rfl, ht⟩) (fun _ h => by cases h) d_Nd_isInClash_43
        · exact absurd c_25 h2
      · exact absurd h1 c_16

set_option maxHeartbeats 4000000 in
set_option maxRecDepth 100000 in
theorem c3_Nd_isInClash (l : Launch) (dC : Nat → ClassId) (dI : Nat → Nat → Nat) (cI cL cZ : ClassId) (ad : Nat → Nat) (LO ST HI KP NB : Nat → Int32) (unk cnt : Nat) (sv sk ck : Int32) (hunk : unk ≤ 10) (hcnt : cnt ≤ 30) (lo hi : Nat → Nat) (hlo : ∀ j, j < cnt → LO j = nI (lo j) ∧ lo j < 11) (hhi : ∀ j, j < cnt → HI j = nI (hi j) ∧ hi j < 11) (j : Nat) (hj : j < cnt) (h0 : ¬ sk = 0) (hsv : sv = 0 ∨ sv = 1) (h1 : sv = 0) (h2 : ck = 0) (hkp : ∀ j, j < cnt → (kco lo hi ST cnt cnt KP NB).1 j = 0 ∨ (kco lo hi ST cnt cnt KP NB).1 j = 1) (sz : Nat) : Met l y_Nd_isInClash (cw_Nd_isInClash :: tb) (rmH 6 0 0) (va_Pc [.ref (ad 12), .int (nI j)] (wy_P (dC, dI) classes (wNd cI cZ ad LO ST HI KP NB unk cnt sv sk ck) (tyI cI cL cZ) sz)) (wy_Q ry_i (fun r (u : Unit) => r = (kco lo hi ST cnt cnt KP NB).1 j) (wy_B (dC, dI) classes (tyI cI cL cZ) (va_A (wNd cI cZ ad LO ST HI KP NB unk cnt sv sk ck) sz) (fun u : Unit => (wNd cI cZ ad LO ST HI (kco lo hi ST cnt cnt KP NB).1 (kco lo hi ST cnt cnt KP NB).2 unk cnt sv sk 1))) (va_A (wNd cI cZ ad LO ST HI KP NB unk cnt sv sk ck) sz)) 0 0 (va_A (wNd cI cZ ad LO ST HI KP NB unk cnt sv sk ck) sz) := by
  refine Met.ofW (cc := b_Nd_isInClash) (maxL := 2) (ret := (some .boolean)) (by decide +kernel) rfl ?_
  intro p e s m args below meth c s₁ B hml0 hv
  have C0 := cx_of B hml0 rfl
  obtain ⟨hx, hb, hr, hml, hown, htb, hlocks⟩ := id C0
  obtain ⟨rfl, hsz, hP, hK, hD0⟩ := hv
  subst hsz
  have hD := hD0.self (sz := s.heap.size)
  generalize hAe : va_A (wNd cI cZ ad LO ST HI KP NB unk cnt sv sk ck) s.heap.size = A at hD ⊢
  have hA : ∀ q : Nat, s.heap.size ≤ q → A q := fun q h => by rw [← hAe]; exact Or.inr h
  have hS : va_S A s.heap s.heap [] := va_S.rf
  have hl := lv_entry ([.ref (ad 12), .int (nI j)]) (n := 2) (Nat.le_of_ble_eq_true rfl)
  rw [lg_entry_eq]
  generalize (lg_sl ([.ref (ad 12), .int (nI j)]) ++ List.replicate (2 - (lg_sl ([.ref (ad 12), .int (nI j)])).length) Slot.unset).toArray = ls at hl ⊢
  have hl : lv_has ls 2 [(0, .ref (ad 12)), (1, .int (nI j))] := hl
  have hP : va_P (dC, dI) classes [((ad 12), .inr (3, [.ref (ad 13), .ref (ad 14), .ref (ad 15), .ref (ad 16), .ref (ad 17), .int (nI unk), .int (nI cnt), .int sv, .int sk, .int ck])), ((ad 13), .inl (cI, 30, .inl LO)), ((ad 14), .inl (cI, 30, .inl ST)), ((ad 15), .inl (cI, 30, .inl HI)), ((ad 16), .inl (cZ, 30, .inl KP)), ((ad 17), .inl (cI, 11, .inl NB))] s.heap := hP
  have hD : va_D A [((ad 12), .inr (3, [.ref (ad 13), .ref (ad 14), .ref (ad 15), .ref (ad 16), .ref (ad 17), .int (nI unk), .int (nI cnt), .int sv, .int sk, .int ck])), ((ad 13), .inl (cI, 30, .inl LO)), ((ad 14), .inl (cI, 30, .inl ST)), ((ad 15), .inl (cI, 30, .inl HI)), ((ad 16), .inl (cZ, 30, .inl KP)), ((ad 17), .inl (cI, 11, .inl NB))] := hD
  have hA0 := hA
  refine lv_iload_n hx hb d_Nd_isInClash_0 rfl (lv_at hl 1 rfl) ?_
  refine lv_if_lt (tgt := 19) hx hb d_Nd_isInClash_1 (by decide) (fun c_1 => ?_) (fun c_1 => ?_)
  · exact absurd c_1 (nI_pos (by omega))
  · refine lv_iload_n hx hb d_Nd_isInClash_4 rfl (lv_at hl 1 rfl) ?_
    refine lv_aload_n hx hb d_Nd_isInClash_5 rfl (lv_at hl 0 rfl) ?_
    refine va_get (D := (dC, dI)) (ci := 3) (v := .int (nI cnt)) (C := R_Nd) (T := F_Nd) (N := 10) hx hb htb ul_Nd hown hK hP 0 rfl rfl 6 (by decide) (htb _ mw_84) (fun _ h9 => h9) rfl d_Nd_isInClash_6 ?_
    refine lv_icmp_ge (tgt := 19) hx hb d_Nd_isInClash_9 (by decide) (fun c_9 => ?_) (fun c_9 => ?_)
    · exact absurd ((nI_leI (by omega) (by omega)).mp c_9) (by omega)
    · refine lv_aload_n hx hb d_Nd_isInClash_12 rfl (lv_at hl 0 rfl) ?_
      refine ry_callV (n := 0) (As := []) (rest := []) ⟨hx, hb, hml, hown, htb⟩ (c1_Nd_areSolved l dC dI cI cL cZ ad LO ST HI KP NB unk cnt sv sk ck hunk hcnt h0 hsv) (gV mw_182 mw_152 mw_153 mw_4 mc_Nd_areSolved) rfl rfl (by decide +kernel) ⟨Nat.le_of_ble_eq_true rfl, Nat.le_of_ble_eq_true rfl⟩ (hP.sub [0, 1, 2, 3, 4, 5] rfl) hK (ci := 3) (q0 := 0) rfl rfl rfl rfl hl.1 rfl (Nat.le_of_ble_eq_true rfl) d_Nd_isInClash_13 ⟨Nat.zero_le _, Nat.zero_le _⟩ (fun r_1 hr_1 => ?_)
      rw [hr_1]
      refine W.eq (g2 := F0 m 16 ls [.int sv]) rfl ?_
      refine lv_if_eq (tgt := 21) hx hb d_Nd_isInClash_16 (by decide) (fun c_16 => ?_) (fun c_16 => ?_)
      · refine lv_aload_n hx hb d_Nd_isInClash_21 rfl (lv_at hl 0 rfl) ?_
        refine va_get (D := (dC, dI)) (ci := 3) (v := .int ck) (C := R_Nd) (T := F_Nd) (N := 10) hx hb htb ul_Nd hown hK hP 0 rfl rfl 9 (by decide) (htb _ mw_87) (fun _ h9 => h9) rfl d_Nd_isInClash_22 ?_
        refine lv_if_ne (tgt := 37) hx hb d_Nd_isInClash_25 (by decide) (fun c_25 => ?_) (fun c_25 => ?_)
        · exact absurd h2 c_25
        · refine lv_aload_n hx hb d_Nd_isInClash_28 rfl (lv_at hl 0 rfl) ?_
          refine wy_callV (n := 0) (wr := []) (As := []) (rest := []) ⟨hx, hb, hml, hown, htb⟩ (c_Nd_keepClashOnly l dC dI cI cL cZ ad LO ST HI KP NB unk cnt sv sk ck hunk hcnt lo hi hlo hhi s.heap.size) (gV mw_191 mw_193 mp_5 mw_4 mc_Nd_keepClashOnly) rfl rfl (by decide +kernel) ⟨Nat.le_of_ble_eq_true rfl, Nat.le_of_ble_eq_true rfl⟩ hP hD hS hA hK [0, 1, 2, 3, 4, 5] [] rfl rfl (by decide) (by decide) (hP.sub [0, 1, 2, 3, 4, 5] rfl) ((hD.sub [0, 1, 2, 3, 4, 5] (by decide) rfl).weaken (fun _ _ _ _ => trivial)) (ci := 3) (q0 := 0) rfl rfl rfl rfl hl.1 rfl (Nat.le_of_ble_eq_true rfl) d_Nd_isInClash_29 ⟨Nat.le_of_ble_eq_true rfl, Nat.le_of_ble_eq_true rfl⟩ (fun r u H locs hpost hP hD hS => ?_)
          subst hpost
          have hP : va_P (dC, dI) classes [((ad 12), .inr (3, [.ref (ad 13), .ref (ad 14), .ref (ad 15), .ref (ad 16), .ref (ad 17), .int (nI unk), .int (nI cnt), .int sv, .int sk, .int ck])), ((ad 13), .inl (cI, 30, .inl LO)), ((ad 14), .inl (cI, 30, .inl ST)), ((ad 15), .inl (cI, 30, .inl HI)), ((ad 16), .inl (cZ, 30, .inl ((kco lo hi ST cnt cnt KP NB).1))), ((ad 17), .inl (cI, 11, .inl ((kco lo hi ST cnt cnt KP NB).2)))] H := hP
          have hD : va_D A [((ad 12), .inr (3, [.ref (ad 13), .ref (ad 14), .ref (ad 15), .ref (ad 16), .ref (ad 17), .int (nI unk), .int (nI cnt), .int sv, .int sk, .int ck])), ((ad 13), .inl (cI, 30, .inl LO)), ((ad 14), .inl (cI, 30, .inl ST)), ((ad 15), .inl (cI, 30, .inl HI)), ((ad 16), .inl (cZ, 30, .inl ((kco lo hi ST cnt cnt KP NB).1))), ((ad 17), .inl (cI, 11, .inl ((kco lo hi ST cnt cnt KP NB).2)))] := hD
          refine W.eq (g2 := F0 m 32 ls []) rfl ?_
          refine lv_aload_n hx hb d_Nd_isInClash_32 rfl (lv_at hl 0 rfl) ?_
          refine lv_iconst (v := 1) hx hb d_Nd_isInClash_33 (by decide) ?_
          refine va_put (D := (dC, dI)) (ci := 3) (v := .int 1) (ty := .boolean) (C := R_Nd) (T := F_Nd) (N := 10) hx hb htb ul_Nd t_Nd t_Nd_ok n_Nd hown hK hP hD hS 0 rfl rfl 9 (by decide) (htb _ mw_87) (fun _ h9 => h9) rfl (by decide +kernel) rfl rfl (Nat.le_of_ble_eq_true rfl) d_Nd_isInClash_34 (fun H locs hP hD hS => ?_)
          have hP : va_P (dC, dI) classes [((ad 12), .inr (3, [.ref (ad 13), .ref (ad 14), .ref (ad 15), .ref (ad 16), .ref (ad 17), .int (nI unk), .int (nI cnt), .int sv, .int sk, .int 1])), ((ad 13), .inl (cI, 30, .inl LO)), ((ad 14), .inl (cI, 30, .inl ST)), ((ad 15), .inl (cI, 30, .inl HI)), ((ad 16), .inl (cZ, 30, .inl ((kco lo hi ST cnt cnt KP NB).1))), ((ad 17), .inl (cI, 11, .inl ((kco lo hi ST cnt cnt KP NB).2)))] H := hP
          have hD : va_D A [((ad 12), .inr (3, [.ref (ad 13), .ref (ad 14), .ref (ad 15), .ref (ad 16), .ref (ad 17), .int (nI unk), .int (nI cnt), .int sv, .int sk, .int 1])), ((ad 13), .inl (cI, 30, .inl LO)), ((ad 14), .inl (cI, 30, .inl ST)), ((ad 15), .inl (cI, 30, .inl HI)), ((ad 16), .inl (cZ, 30, .inl ((kco lo hi ST cnt cnt KP NB).1))), ((ad 17), .inl (cI, 11, .inl ((kco lo hi ST cnt cnt KP NB).2)))] := hD
          refine lv_aload_n hx hb d_Nd_isInClash_37 rfl (lv_at hl 0 rfl) ?_
          refine va_get (D := (dC, dI)) (ci := 3) (v := .ref (ad 16)) (C := R_Nd) (T := F_Nd) (N := 10) hx hb htb ul_Nd hown hK hP 0 rfl rfl 3 (by decide) (htb _ mw_81) (fun _ h9 => h9) rfl d_Nd_isInClash_38 ?_
          refine lv_iload_n hx hb d_Nd_isInClash_41 rfl (lv_at hl 1 rfl) ?_
          refine ry_zald (D := (dC, dI)) (j := j) hx hb hK hP 4 2 rfl rfl (by omega) (by decide) d_Nd_isInClash_42 ?_
          exact W.zret (v := (((kco lo hi ST cnt cnt KP NB).1) j)) hx hb hr (bn (hkp j hj)) (fun t ht hW => ⟨⟨(((kco lo hi ST cnt cnt KP NB).1) j), (), rfl, rfl, by rw [ht]; exact hP, va_K.moved hW.alike hK, hD⟩, hS.F ht⟩) hS.2.2 d_Nd_isInClash_43
      · exact absurd h1 c_16

set_option maxHeartbeats 4000000 in
set_option maxRecDepth 100000 in
theorem c4_Nd_isInClash (l : Launch) (dC : Nat → ClassId) (dI : Nat → Nat → Nat) (cI cL cZ : ClassId) (ad : Nat → Nat) (LO ST HI KP NB : Nat → Int32) (unk cnt : Nat) (sv sk ck : Int32) (hunk : unk ≤ 10) (hcnt : cnt ≤ 30) (lo hi : Nat → Nat) (hlo : ∀ j, j < cnt → LO j = nI (lo j) ∧ lo j < 11) (hhi : ∀ j, j < cnt → HI j = nI (hi j) ∧ hi j < 11) (j : Nat) (hj : j < cnt) (h0 : sk = 0) (h1 : ¬ (cks lo hi ST (fl cnt 1 KP) cnt NB).1 = 0) (sz : Nat) : Met l y_Nd_isInClash (cw_Nd_isInClash :: tb) (rmH 6 0 0) (va_Pc [.ref (ad 12), .int (nI j)] (wy_P (dC, dI) classes (wNd cI cZ ad LO ST HI KP NB unk cnt sv sk ck) (tyI cI cL cZ) sz)) (wy_Q ry_i (fun r (u : Unit) => r = 0) (wy_B (dC, dI) classes (tyI cI cL cZ) (va_A (wNd cI cZ ad LO ST HI KP NB unk cnt sv sk ck) sz) (fun u : Unit => (wNd cI cZ ad LO ST HI (fl cnt 1 KP) (cks lo hi ST (fl cnt 1 KP) cnt NB).2 unk cnt (cks lo hi ST (fl cnt 1 KP) cnt NB).1 1 ck))) (va_A (wNd cI cZ ad LO ST HI KP NB unk cnt sv sk ck) sz)) 0 0 (va_A (wNd cI cZ ad LO ST HI KP NB unk cnt sv sk ck) sz) := by
  refine Met.ofW (cc := b_Nd_isInClash) (maxL := 2) (ret := (some .boolean)) (by decide +kernel) rfl ?_
  intro p e s m args below meth c s₁ B hml0 hv
  have C0 := cx_of B hml0 rfl
  obtain ⟨hx, hb, hr, hml, hown, htb, hlocks⟩ := id C0
  obtain ⟨rfl, hsz, hP, hK, hD0⟩ := hv
  subst hsz
  have hD := hD0.self (sz := s.heap.size)
  generalize hAe : va_A (wNd cI cZ ad LO ST HI KP NB unk cnt sv sk ck) s.heap.size = A at hD ⊢
  have hA : ∀ q : Nat, s.heap.size ≤ q → A q := fun q h => by rw [← hAe]; exact Or.inr h
  have hS : va_S A s.heap s.heap [] := va_S.rf
  have hl := lv_entry ([.ref (ad 12), .int (nI j)]) (n := 2) (Nat.le_of_ble_eq_true rfl)
  rw [lg_entry_eq]
  generalize (lg_sl ([.ref (ad 12), .int (nI j)]) ++ List.replicate (2 - (lg_sl ([.ref (ad 12), .int (nI j)])).length) Slot.unset).toArray = ls at hl ⊢
  have hl : lv_has ls 2 [(0, .ref (ad 12)), (1, .int (nI j))] := hl
  have hP : va_P (dC, dI) classes [((ad 12), .inr (3, [.ref (ad 13), .ref (ad 14), .ref (ad 15), .ref (ad 16), .ref (ad 17), .int (nI unk), .int (nI cnt), .int sv, .int sk, .int ck])), ((ad 13), .inl (cI, 30, .inl LO)), ((ad 14), .inl (cI, 30, .inl ST)), ((ad 15), .inl (cI, 30, .inl HI)), ((ad 16), .inl (cZ, 30, .inl KP)), ((ad 17), .inl (cI, 11, .inl NB))] s.heap := hP
  have hD : va_D A [((ad 12), .inr (3, [.ref (ad 13), .ref (ad 14), .ref (ad 15), .ref (ad 16), .ref (ad 17), .int (nI unk), .int (nI cnt), .int sv, .int sk, .int ck])), ((ad 13), .inl (cI, 30, .inl LO)), ((ad 14), .inl (cI, 30, .inl ST)), ((ad 15), .inl (cI, 30, .inl HI)), ((ad 16), .inl (cZ, 30, .inl KP)), ((ad 17), .inl (cI, 11, .inl NB))] := hD
  have hA0 := hA
  refine lv_iload_n hx hb d_Nd_isInClash_0 rfl (lv_at hl 1 rfl) ?_
  refine lv_if_lt (tgt := 19) hx hb d_Nd_isInClash_1 (by decide) (fun c_1 => ?_) (fun c_1 => ?_)
  · exact absurd c_1 (nI_pos (by omega))
  · refine lv_iload_n hx hb d_Nd_isInClash_4 rfl (lv_at hl 1 rfl) ?_
    refine lv_aload_n hx hb d_Nd_isInClash_5 rfl (lv_at hl 0 rfl) ?_
    refine va_get (D := (dC, dI)) (ci := 3) (v := .int (nI cnt)) (C := R_Nd) (T := F_Nd) (N := 10) hx hb htb ul_Nd hown hK hP 0 rfl rfl 6 (by decide) (htb _ mw_84) (fun _ h9 => h9) rfl d_Nd_isInClash_6 ?_
    refine lv_icmp_ge (tgt := 19) hx hb d_Nd_isInClash_9 (by decide) (fun c_9 => ?_) (fun c_9 => ?_)
    · exact absurd ((nI_leI (by omega) (by omega)).mp c_9) (by omega)
    · refine lv_aload_n hx hb d_Nd_isInClash_12 rfl (lv_at hl 0 rfl) ?_
      refine wy_callV (n := 0) (wr := []) (As := []) (rest := []) ⟨hx, hb, hml, hown, htb⟩ (c_Nd_areSolved l dC dI cI cL cZ ad LO ST HI KP NB unk cnt sv sk ck hunk hcnt lo hi hlo hhi h0 s.heap.size) (gV mw_182 mw_152 mw_153 mw_4 mc_Nd_areSolved) rfl rfl (by decide +kernel) ⟨Nat.le_of_ble_eq_true rfl, Nat.le_of_ble_eq_true rfl⟩ hP hD hS hA hK [0, 1, 2, 3, 4, 5] [] rfl rfl (by decide) (by decide) (hP.sub [0, 1, 2, 3, 4, 5] rfl) ((hD.sub [0, 1, 2, 3, 4, 5] (by decide) rfl).weaken (fun _ _ _ _ => trivial)) (ci := 3) (q0 := 0) rfl rfl rfl rfl hl.1 rfl (Nat.le_of_ble_eq_true rfl) d_Nd_isInClash_13 ⟨Nat.le_of_ble_eq_true rfl, Nat.le_of_ble_eq_true rfl⟩ (fun r u H locs hpost hP hD hS => ?_)
      subst hpost
      have hP : va_P (dC, dI) classes [((ad 12), .inr (3, [.ref (ad 13), .ref (ad 14), .ref (ad 15), .ref (ad 16), .ref (ad 17), .int (nI unk), .int (nI cnt), .int (cks lo hi ST (fl cnt 1 KP) cnt NB).1, .int 1, .int ck])), ((ad 13), .inl (cI, 30, .inl LO)), ((ad 14), .inl (cI, 30, .inl ST)), ((ad 15), .inl (cI, 30, .inl HI)), ((ad 16), .inl (cZ, 30, .inl (fl cnt 1 KP))), ((ad 17), .inl (cI, 11, .inl ((cks lo hi ST (fl cnt 1 KP) cnt NB).2)))] H := hP
      have hD : va_D A [((ad 12), .inr (3, [.ref (ad 13), .ref (ad 14), .ref (ad 15), .ref (ad 16), .ref (ad 17), .int (nI unk), .int (nI cnt), .int (cks lo hi ST (fl cnt 1 KP) cnt NB).1, .int 1, .int ck])), ((ad 13), .inl (cI, 30, .inl LO)), ((ad 14), .inl (cI, 30, .inl ST)), ((ad 15), .inl (cI, 30, .inl HI)), ((ad 16), .inl (cZ, 30, .inl (fl cnt 1 KP))), ((ad 17), .inl (cI, 11, .inl ((cks lo hi ST (fl cnt 1 KP) cnt NB).2)))] := hD
      refine W.eq (g2 := F0 m 16 ls [.int (cks lo hi ST (fl cnt 1 KP) cnt NB).1]) rfl ?_
      refine lv_if_eq (tgt := 21) hx hb d_Nd_isInClash_16 (by decide) (fun c_16 => ?_) (fun c_16 => ?_)
      · exact absurd c_16 h1
      · refine lv_iconst (v := 0) hx hb d_Nd_isInClash_19 (by decide) ?_
        exact W.zret (v := 0) hx hb hr rfl (fun t ht hW => ⟨⟨0, (), rfl, rfl, by rw [ht]; exact hP, va_K.moved hW.alike hK, hD⟩, hS.F ht⟩) hS.2.2 d_Nd_isInClash_20

set_option maxHeartbeats 4000000 in
set_option maxRecDepth 100000 in
theorem c5_Nd_isInClash (l : Launch) (dC : Nat → ClassId) (dI : Nat → Nat → Nat) (cI cL cZ : ClassId) (ad : Nat → Nat) (LO ST HI KP NB : Nat → Int32) (unk cnt : Nat) (sv sk ck : Int32) (hunk : unk ≤ 10) (hcnt : cnt ≤ 30) (lo hi : Nat → Nat) (hlo : ∀ j, j < cnt → LO j = nI (lo j) ∧ lo j < 11) (hhi : ∀ j, j < cnt → HI j = nI (hi j) ∧ hi j < 11) (j : Nat) (hj : j < cnt) (h0 : sk = 0) (h1 : (cks lo hi ST (fl cnt 1 KP) cnt NB).1 = 0) (h2 : ck = 0) (hkp : ∀ j, j < cnt → (kco lo hi ST cnt cnt (fl cnt 1 KP) (cks lo hi ST (fl cnt 1 KP) cnt NB).2).1 j = 0 ∨ (kco lo hi ST cnt cnt (fl cnt 1 KP) (cks lo hi ST (fl cnt 1 KP) cnt NB).2).1 j = 1) (sz : Nat) : Met l y_Nd_isInClash (cw_Nd_isInClash :: tb) (rmH 6 0 0) (va_Pc [.ref (ad 12), .int (nI j)] (wy_P (dC, dI) classes (wNd cI cZ ad LO ST HI KP NB unk cnt sv sk ck) (tyI cI cL cZ) sz)) (wy_Q ry_i (fun r (u : Unit) => r = (kco lo hi ST cnt cnt (fl cnt 1 KP) (cks lo hi ST (fl cnt 1 KP) cnt NB).2).1 j) (wy_B (dC, dI) classes (tyI cI cL cZ) (va_A (wNd cI cZ ad LO ST HI KP NB unk cnt sv sk ck) sz) (fun u : Unit => (wNd cI cZ ad LO ST HI (kco lo hi ST cnt cnt (fl cnt 1 KP) (cks lo hi ST (fl cnt 1 KP) cnt NB).2).1 (kco lo hi ST cnt cnt (fl cnt 1 KP) (cks lo hi ST (fl cnt 1 KP) cnt NB).2).2 unk cnt (cks lo hi ST (fl cnt 1 KP) cnt NB).1 1 1))) (va_A (wNd cI cZ ad LO ST HI KP NB unk cnt sv sk ck) sz)) 0 0 (va_A (wNd cI cZ ad LO ST HI KP NB unk cnt sv sk ck) sz) := by
  refine Met.ofW (cc := b_Nd_isInClash) (maxL := 2) (ret := (some .boolean)) (by decide +kernel) rfl ?_
  intro p e s m args below meth c s₁ B hml0 hv
  have C0 := cx_of B hml0 rfl
  obtain ⟨hx, hb, hr, hml, hown, htb, hlocks⟩ := id C0
  obtain ⟨rfl, hsz, hP, hK, hD0⟩ := hv
  subst hsz
  have hD := hD0.self (sz := s.heap.size)
  generalize hAe : va_A (wNd cI cZ ad LO ST HI KP NB unk cnt sv sk ck) s.heap.size = A at hD ⊢
  have hA : ∀ q : Nat, s.heap.size ≤ q → A q := fun q h => by rw [← hAe]; exact Or.inr h
  have hS : va_S A s.heap s.heap [] := va_S.rf
  have hl := lv_entry ([.ref (ad 12), .int (nI j)]) (n := 2) (Nat.le_of_ble_eq_true rfl)
  rw [lg_entry_eq]
  generalize (lg_sl ([.ref (ad 12), .int (nI j)]) ++ List.replicate (2 - (lg_sl ([.ref (ad 12), .int (nI j)])).length) Slot.unset).toArray = ls at hl ⊢
  have hl : lv_has ls 2 [(0, .ref (ad 12)), (1, .int (nI j))] := hl
  have hP : va_P (dC, dI) classes [((ad 12), .inr (3, [.ref (ad 13), .ref (ad 14), .ref (ad 15), .ref (ad 16), .ref (ad 17), .int (nI unk), .int (nI cnt), .int sv, .int sk, .int ck])), ((ad 13), .inl (cI, 30, .inl LO)), ((ad 14), .inl (cI, 30, .inl ST)), ((ad 15), .inl (cI, 30, .inl HI)), ((ad 16), .inl (cZ, 30, .inl KP)), ((ad 17), .inl (cI, 11, .inl NB))] s.heap := hP
  have hD : va_D A [((ad 12), .inr (3, [.ref (ad 13), .ref (ad 14), .ref (ad 15), .ref (ad 16), .ref (ad 17), .int (nI unk), .int (nI cnt), .int sv, .int sk, .int ck])), ((ad 13), .inl (cI, 30, .inl LO)), ((ad 14), .inl (cI, 30, .inl ST)), ((ad 15), .inl (cI, 30, .inl HI)), ((ad 16), .inl (cZ, 30, .inl KP)), ((ad 17), .inl (cI, 11, .inl NB))] := hD
  have hA0 := hA
  refine lv_iload_n hx hb d_Nd_isInClash_0 rfl (lv_at hl 1 rfl) ?_
  refine lv_if_lt (tgt := 19) hx hb d_Nd_isInClash_1 (by decide) (fun c_1 => ?_) (fun c_1 => ?_)
  · exact absurd c_1 (nI_pos (by omega))
  · refine lv_iload_n hx hb d_Nd_isInClash_4 rfl (lv_at hl 1 rfl) ?_
    refine lv_aload_n hx hb d_Nd_isInClash_5 rfl (lv_at hl 0 rfl) ?_
    refine va_get (D := (dC, dI)) (ci := 3) (v := .int (nI cnt)) (C := R_Nd) (T := F_Nd) (N := 10) hx hb htb ul_Nd hown hK hP 0 rfl rfl 6 (by decide) (htb _ mw_84) (fun _ h9 => h9) rfl d_Nd_isInClash_6 ?_
    refine lv_icmp_ge (tgt := 19) hx hb d_Nd_isInClash_9 (by decide) (fun c_9 => ?_) (fun c_9 => ?_)
    · exact absurd ((nI_leI (by omega) (by omega)).mp c_9) (by omega)
    · refine lv_aload_n hx hb d_Nd_isInClash_12 rfl (lv_at hl 0 rfl) ?_
      refine wy_callV (n := 0) (wr := []) (As := []) (rest := []) ⟨hx, hb, hml, hown, htb⟩ (c_Nd_areSolved l dC dI cI cL cZ ad LO ST HI KP NB unk cnt sv sk ck hunk hcnt lo hi hlo hhi h0 s.heap.size) (gV mw_182 mw_152 mw_153 mw_4 mc_Nd_areSolved) rfl rfl (by decide +kernel) ⟨Nat.le_of_ble_eq_true rfl, Nat.le_of_ble_eq_true rfl⟩ hP hD hS hA hK [0, 1, 2, 3, 4, 5] [] rfl rfl (by decide) (by decide) (hP.sub [0, 1, 2, 3, 4, 5] rfl) ((hD.sub [0, 1, 2, 3, 4, 5] (by decide) rfl).weaken (fun _ _ _ _ => trivial)) (ci := 3) (q0 := 0) rfl rfl rfl rfl hl.1 rfl (Nat.le_of_ble_eq_true rfl) d_Nd_isInClash_13 ⟨Nat.le_of_ble_eq_true rfl, Nat.le_of_ble_eq_true rfl⟩ (fun r u H locs hpost hP hD hS => ?_)
      subst hpost
      have hP : va_P (dC, dI) classes [((ad 12), .inr (3, [.ref (ad 13), .ref (ad 14), .ref (ad 15), .ref (ad 16), .ref (ad 17), .int (nI unk), .int (nI cnt), .int (cks lo hi ST (fl cnt 1 KP) cnt NB).1, .int 1, .int ck])), ((ad 13), .inl (cI, 30, .inl LO)), ((ad 14), .inl (cI, 30, .inl ST)), ((ad 15), .inl (cI, 30, .inl HI)), ((ad 16), .inl (cZ, 30, .inl (fl cnt 1 KP))), ((ad 17), .inl (cI, 11, .inl ((cks lo hi ST (fl cnt 1 KP) cnt NB).2)))] H := hP
      have hD : va_D A [((ad 12), .inr (3, [.ref (ad 13), .ref (ad 14), .ref (ad 15), .ref (ad 16), .ref (ad 17), .int (nI unk), .int (nI cnt), .int (cks lo hi ST (fl cnt 1 KP) cnt NB).1, .int 1, .int ck])), ((ad 13), .inl (cI, 30, .inl LO)), ((ad 14), .inl (cI, 30, .inl ST)), ((ad 15), .inl (cI, 30, .inl HI)), ((ad 16), .inl (cZ, 30, .inl (fl cnt 1 KP))), ((ad 17), .inl (cI, 11, .inl ((cks lo hi ST (fl cnt 1 KP) cnt NB).2)))] := hD
      refine W.eq (g2 := F0 m 16 ls [.int (cks lo hi ST (fl cnt 1 KP) cnt NB).1]) rfl ?_
      refine lv_if_eq (tgt := 21) hx hb d_Nd_isInClash_16 (by decide) (fun c_16 => ?_) (fun c_16 => ?_)
      · refine lv_aload_n hx hb d_Nd_isInClash_21 rfl (lv_at hl 0 rfl) ?_
        refine va_get (D := (dC, dI)) (ci := 3) (v := .int ck) (C := R_Nd) (T := F_Nd) (N := 10) hx hb htb ul_Nd hown hK hP 0 rfl rfl 9 (by decide) (htb _ mw_87) (fun _ h9 => h9) rfl d_Nd_isInClash_22 ?_
        refine lv_if_ne (tgt := 37) hx hb d_Nd_isInClash_25 (by decide) (fun c_25 => ?_) (fun c_25 => ?_)
        · exact absurd h2 c_25
        · refine lv_aload_n hx hb d_Nd_isInClash_28 rfl (lv_at hl 0 rfl) ?_
          refine wy_callV (n := 0) (wr := []) (As := []) (rest := []) ⟨hx, hb, hml, hown, htb⟩ (c_Nd_keepClashOnly l dC dI cI cL cZ ad LO ST HI (fl cnt 1 KP) (cks lo hi ST (fl cnt 1 KP) cnt NB).2 unk cnt (cks lo hi ST (fl cnt 1 KP) cnt NB).1 1 ck hunk hcnt lo hi hlo hhi H.size) (gV mw_191 mw_193 mp_5 mw_4 mc_Nd_keepClashOnly) rfl rfl (by decide +kernel) ⟨Nat.le_of_ble_eq_true rfl, Nat.le_of_ble_eq_true rfl⟩ hP hD hS hA hK [0, 1, 2, 3, 4, 5] [] rfl rfl (by decide) (by decide) (hP.sub [0, 1, 2, 3, 4, 5] rfl) ((hD.sub [0, 1, 2, 3, 4, 5] (by decide) rfl).weaken (fun _ _ _ _ => trivial)) (ci := 3) (q0 := 0) rfl rfl rfl rfl hl.1 rfl (Nat.le_of_ble_eq_true rfl) d_Nd_isInClash_29 ⟨Nat.le_of_ble_eq_true rfl, Nat.le_of_ble_eq_true rfl⟩ (fun r u H locs hpost hP hD hS => ?_)
          subst hpost
          have hP : va_P (dC, dI) classes [((ad 12), .inr (3, [.ref (ad 13), .ref (ad 14), .ref (ad 15), .ref (ad 16), .ref (ad 17), .int (nI unk), .int (nI cnt), .int (cks lo hi ST (fl cnt 1 KP) cnt NB).1, .int 1, .int ck])), ((ad 13), .inl (cI, 30, .inl LO)), ((ad 14), .inl (cI, 30, .inl ST)), ((ad 15), .inl (cI, 30, .inl HI)), ((ad 16), .inl (cZ, 30, .inl ((kco lo hi ST cnt cnt (fl cnt 1 KP) (cks lo hi ST (fl cnt 1 KP) cnt NB).2).1))), ((ad 17), .inl (cI, 11, .inl ((kco lo hi ST cnt cnt (fl cnt 1 KP) (cks lo hi ST (fl cnt 1 KP) cnt NB).2).2)))] H := hP
          have hD : va_D A [((ad 12), .inr (3, [.ref (ad 13), .ref (ad 14), .ref (ad 15), .ref (ad 16), .ref (ad 17), .int (nI unk), .int (nI cnt), .int (cks lo hi ST (fl cnt 1 KP) cnt NB).1, .int 1, .int ck])), ((ad 13), .inl (cI, 30, .inl LO)), ((ad 14), .inl (cI, 30, .inl ST)), ((ad 15), .inl (cI, 30, .inl HI)), ((ad 16), .inl (cZ, 30, .inl ((kco lo hi ST cnt cnt (fl cnt 1 KP) (cks lo hi ST (fl cnt 1 KP) cnt NB).2).1))), ((ad 17), .inl (cI, 11, .inl ((kco lo hi ST cnt cnt (fl cnt 1 KP) (cks lo hi ST (fl cnt 1 KP) cnt NB).2).2)))] := hD
          refine W.eq (g2 := F0 m 32 ls []) rfl ?_
          refine lv_aload_n hx hb d_Nd_isInClash_32 rfl (lv_at hl 0 rfl) ?_
          refine lv_iconst (v := 1) hx hb d_Nd_isInClash_33 (by decide) ?_
          refine va_put (D := (dC, dI)) (ci := 3) (v := .int 1) (ty := .boolean) (C := R_Nd) (T := F_Nd) (N := 10) hx hb htb ul_Nd t_Nd t_Nd_ok n_Nd hown hK hP hD hS 0 rfl rfl 9 (by decide) (htb _ mw_87) (fun _ h9 => h9) rfl (by decide +kernel) rfl rfl (Nat.le_of_ble_eq_true rfl) d_Nd_isInClash_34 (fun H locs hP hD hS => ?_)
          have hP : va_P (dC, dI) classes [((ad 12), .inr (3, [.ref (ad 13), .ref (ad 14), .ref (ad 15), .ref (ad 16), .ref (ad 17), .int (nI unk), .int (nI cnt), .int (cks lo hi ST (fl cnt 1 KP) cnt NB).1, .int 1, .int 1])), ((ad 13), .inl (cI, 30, .inl LO)), ((ad 14), .inl (cI, 30, .inl ST)), ((ad 15), .inl (cI, 30, .inl HI)), ((ad 16), .inl (cZ, 30, .inl ((kco lo hi ST cnt cnt (fl cnt 1 KP) (cks lo hi ST (fl cnt 1 KP) cnt NB).2).1))), ((ad 17), .inl (cI, 11, .inl ((kco lo hi ST cnt cnt (fl cnt 1 KP) (cks lo hi ST (fl cnt 1 KP) cnt NB).2).2)))] H := hP
          have hD : va_D A [((ad 12), .inr (3, [.ref (ad 13), .ref (ad 14), .ref (ad 15), .ref (ad 16), .ref (ad 17), .int (nI unk), .int (nI cnt), .int (cks lo hi ST (fl cnt 1 KP) cnt NB).1, .int 1, .int 1])), ((ad 13), .inl (cI, 30, .inl LO)), ((ad 14), .inl (cI, 30, .inl ST)), ((ad 15), .inl (cI, 30, .inl HI)), ((ad 16), .inl (cZ, 30, .inl ((kco lo hi ST cnt cnt (fl cnt 1 KP) (cks lo hi ST (fl cnt 1 KP) cnt NB).2).1))), ((ad 17), .inl (cI, 11, .inl ((kco lo hi ST cnt cnt (fl cnt 1 KP) (cks lo hi ST (fl cnt 1 KP) cnt NB).2).2)))] := hD
          refine lv_aload_n hx hb d_Nd_isInClash_37 rfl (lv_at hl 0 rfl) ?_
          refine va_get (D := (dC, dI)) (ci := 3) (v := .ref (ad 16)) (C := R_Nd) (T := F_Nd) (N := 10) hx hb htb ul_Nd hown hK hP 0 rfl rfl 3 (by decide) (htb _ mw_81) (fun _ h9 => h9) rfl d_Nd_isInClash_38 ?_
          refine lv_iload_n hx hb d_Nd_isInClash_41 rfl (lv_at hl 1 rfl) ?_
          refine ry_zald (D := (dC, dI)) (j := j) hx hb hK hP 4 2 rfl rfl (by omega) (by decide) d_Nd_isInClash_42 ?_
          exact W.zret (v := (((kco lo hi ST cnt cnt (fl cnt 1 KP) (cks lo hi ST (fl cnt 1 KP) cnt NB).2).1) j)) hx hb hr (bn (hkp j hj)) (fun t ht hW => ⟨⟨(((kco lo hi ST cnt cnt (fl cnt 1 KP) (cks lo hi ST (fl cnt 1 KP) cnt NB).2).1) j), (), rfl, rfl, by rw [ht]; exact hP, va_K.moved hW.alike hK, hD⟩, hS.F ht⟩) hS.2.2 d_Nd_isInClash_43
      · exact absurd h1 c_16

set_option maxHeartbeats 4000000 in
set_option maxRecDepth 100000 in
theorem c_Nd_add (l : Launch) (dC : Nat → ClassId) (dI : Nat → Nat → Nat) (cI cL cZ : ClassId) (ad : Nat → Nat) (LO ST HI KP NB : Nat → Int32) (unk cnt : Nat) (sv sk ck : Int32) (hunk : unk ≤ 10) (hcnt : cnt ≤ 30) (x k y : Int32) (h1 : cnt < 30) (sz : Nat) : Met l y_Nd_add (cw_Nd_add :: tb) (rmH 2 0 0) (va_Pc [.ref (ad 12), .int x, .int k, .int y] (wy_P (dC, dI) classes (wNd cI cZ ad LO ST HI KP NB unk cnt sv sk ck) (tyI cI cL cZ) sz)) (wy_Q ry_i (fun r (u : Unit) => r = nI cnt) (wy_B (dC, dI) classes (tyI cI cL cZ) (va_A (wNd cI cZ ad LO ST HI KP NB unk cnt sv sk ck) sz) (fun u : Unit => (wNd cI cZ ad (upd LO cnt (sdI x)) (upd ST cnt k) (upd HI cnt (sdI y)) KP NB unk (cnt + 1) sv 0 0))) (va_A (wNd cI cZ ad LO ST HI KP NB unk cnt sv sk ck) sz)) 0 0 (va_A (wNd cI cZ ad LO ST HI KP NB unk cnt sv sk ck) sz) := by
  refine Met.ofW (cc := b_Nd_add) (maxL := 4) (ret := (some .int)) (by decide +kernel) rfl ?_
  intro p e s m args below meth c s₁ B hml0 hv
  have C0 := cx_of B hml0 rfl
  obtain ⟨hx, hb, hr, hml, hown, htb, hlocks⟩ := id C0
  obtain ⟨rfl, hsz, hP, hK, hD0⟩ := hv
  subst hsz
  have hD := hD0.self (sz := s.heap.size)
  generalize hAe : va_A (wNd cI cZ ad LO ST HI KP NB unk cnt sv sk ck) s.heap.size = A at hD ⊢
  have hA : ∀ q : Nat, s.heap.size ≤ q → A q := fun q h => by rw [← hAe]; exact Or.inr h
  have hS : va_S A s.heap s.heap [] := va_S.rf
  have hl := lv_entry ([.ref (ad 12), .int x, .int k, .int y]) (n := 4) (Nat.le_of_ble_eq_true rfl)
  rw [lg_entry_eq]
  generalize (lg_sl ([.ref (ad 12), .int x, .int k, .int y]) ++ List.replicate (4 - (lg_sl ([.ref (ad 12), .int x, .int k, .int y])).length) Slot.unset).toArray = ls at hl ⊢
  have hl : lv_has ls 4 [(0, .ref (ad 12)), (1, .int x), (2, .int k), (3, .int y)] := hl
  have hP : va_P (dC, dI) classes [((ad 12), .inr (3, [.ref (ad 13), .ref (ad 14), .ref (ad 15), .ref (ad 16), .ref (ad 17), .int (nI unk), .int (nI cnt), .int sv, .int sk, .int ck])), ((ad 13), .inl (cI, 30, .inl LO)), ((ad 14), .inl (cI, 30, .inl ST)), ((ad 15), .inl (cI, 30, .inl HI)), ((ad 16), .inl (cZ, 30, .inl KP)), ((ad 17), .inl (cI, 11, .inl NB))] s.heap := hP
  have hD : va_D A [((ad 12), .inr (3, [.ref (ad 13), .ref (ad 14), .ref (ad 15), .ref (ad 16), .ref (ad 17), .int (nI unk), .int (nI cnt), .int sv, .int sk, .int ck])), ((ad 13), .inl (cI, 30, .inl LO)), ((ad 14), .inl (cI, 30, .inl ST)), ((ad 15), .inl (cI, 30, .inl HI)), ((ad 16), .inl (cZ, 30, .inl KP)), ((ad 17), .inl (cI, 11, .inl NB))] := hD
  have hA0 := hA
  refine lv_aload_n hx hb d_Nd_add_0 rfl (lv_at hl 0 rfl) ?_
  refine va_get (D := (dC, dI)) (ci := 3) (v := .ref (ad 13)) (C := R_Nd) (T := F_Nd) (N := 10) hx hb htb ul_Nd hown hK hP 0 rfl rfl 0 (by decide) (htb _ mw_78) (fun _ h9 => h9) rfl d_Nd_add_1 ?_
  refine lv_aload_n hx hb d_Nd_add_4 rfl (lv_at hl 0 rfl) ?_
  refine va_get (D := (dC, dI)) (ci := 3) (v := .int (nI cnt)) (C := R_Nd) (T := F_Nd) (N := 10) hx hb htb ul_Nd hown hK hP 0 rfl rfl 6 (by decide) (htb _ mw_84) (fun _ h9 => h9) rfl d_Nd_add_5 ?_
  refine lv_iload_n hx hb d_Nd_add_8 rfl (lv_at hl 1 rfl) ?_
  refine lv_iconst (v := (-1)) hx hb d_Nd_add_9 (by decide) ?_
  refine lv_icmp_ne (tgt := 18) hx hb d_Nd_add_10 (by decide) (fun c_10 => ?_) (fun c_10 => ?_)
  · refine lv_iload_n hx hb d_Nd_add_18 rfl (lv_at hl 1 rfl) ?_
    rw [show F0 m 19 ls [.int x, .int (nI cnt), .ref (ad 13)] = F0 m 19 ls [.int (sdI x), .int (nI cnt), .ref (ad 13)] from by rw [sdI, if_neg c_10]]
    refine ry_iast (D := (dC, dI)) (j := cnt) hx hb hK hP hD hS 1 0 rfl rfl (by omega) (by decide) d_Nd_add_19 (fun H locs hP hD hS => ?_)
    have hP : va_P (dC, dI) classes [((ad 12), .inr (3, [.ref (ad 13), .ref (ad 14), .ref (ad 15), .ref (ad 16), .ref (ad 17), .int (nI unk), .int (nI cnt), .int sv, .int sk, .int ck])), ((ad 13), .inl (cI, 30, .inl (upd LO cnt (sdI x)))), ((ad 14), .inl (cI, 30, .inl ST)), ((ad 15), .inl (cI, 30, .inl HI)), ((ad 16), .inl (cZ, 30, .inl KP)), ((ad 17), .inl (cI, 11, .inl NB))] H := hP
    have hD : va_D A [((ad 12), .inr (3, [.ref (ad 13), .ref (ad 14), .ref (ad 15), .ref (ad 16), .ref (ad 17), .int (nI unk), .int (nI cnt), .int sv, .int sk, .int ck])), ((ad 13), .inl (cI, 30, .inl (upd LO cnt (sdI x)))), ((ad 14), .inl (cI, 30, .inl ST)), ((ad 15), .inl (cI, 30, .inl HI)), ((ad 16), .inl (cZ, 30, .inl KP)), ((ad 17), .inl (cI, 11, .inl NB))] := hD
    refine lv_aload_n hx hb d_Nd_add_20 rfl (lv_at hl 0 rfl) ?_
    refine va_get (D := (dC, dI)) (ci := 3) (v := .ref (ad 14)) (C := R_Nd) (T := F_Nd) (N := 10) hx hb htb ul_Nd hown hK hP 0 rfl rfl 1 (by decide) (htb _ mw_79) (fun _ h9 => h9) rfl d_Nd_add_21 ?_
    refine lv_aload_n hx hb d_Nd_add_24 rfl (lv_at hl 0 rfl) ?_
    refine va_get (D := (dC, dI)) (ci := 3) (v := .int (nI cnt)) (C := R_Nd) (T := F_Nd) (N := 10) hx hb htb ul_Nd hown hK hP 0 rfl rfl 6 (by decide) (htb _ mw_84) (fun _ h9 => h9) rfl d_Nd_add_25 ?_
    refine lv_iload_n hx hb d_Nd_add_28 rfl (lv_at hl 2 rfl) ?_
    refine ry_iast (D := (dC, dI)) (j := cnt) hx hb hK hP hD hS 2 0 rfl rfl (by omega) (by decide) d_Nd_add_29 (fun H locs hP hD hS => ?_)
    have hP : va_P (dC, dI) classes [((ad 12), .inr (3, [.ref (ad 13), .ref (ad 14), .ref (ad 15), .ref (ad 16), .ref (ad 17), .int (nI unk), .int (nI cnt), .int sv, .int sk, .int ck])), ((ad 13), .inl (cI, 30, .inl (upd LO cnt (sdI x)))), ((ad 14), .inl (cI, 30, .inl (upd ST cnt k))), ((ad 15), .inl (cI, 30, .inl HI)), ((ad 16), .inl (cZ, 30, .inl KP)), ((ad 17), .inl (cI, 11, .inl NB))] H := hP
    have hD : va_D A [((ad 12), .inr (3, [.ref (ad 13), .ref (ad 14), .ref (ad 15), .ref (ad 16), .ref (ad 17), .int (nI unk), .int (nI cnt), .int sv, .int sk, .int ck])), ((ad 13), .inl (cI, 30, .inl (upd LO cnt (sdI x)))), ((ad 14), .inl (cI, 30, .inl (upd ST cnt k))), ((ad 15), .inl (cI, 30, .inl HI)), ((ad 16), .inl (cZ, 30, .inl KP)), ((ad 17), .inl (cI, 11, .inl NB))] := hD
    refine lv_aload_n hx hb d_Nd_add_30 rfl (lv_at hl 0 rfl) ?_
    refine va_get (D := (dC, dI)) (ci := 3) (v := .ref (ad 15)) (C := R_Nd) (T := F_Nd) (N := 10) hx hb htb ul_Nd hown hK hP 0 rfl rfl 2 (by decide) (htb _ mw_80) (fun _ h9 => h9) rfl d_Nd_add_31 ?_
    refine lv_aload_n hx hb d_Nd_add_34 rfl (lv_at hl 0 rfl) ?_
    refine va_get (D := (dC, dI)) (ci := 3) (v := .int (nI cnt)) (C := R_Nd) (T := F_Nd) (N := 10) hx hb htb ul_Nd hown hK hP 0 rfl rfl 6 (by decide) (htb _ mw_84) (fun _ h9 => h9) rfl d_Nd_add_35 ?_
    refine lv_iload_n hx hb d_Nd_add_38 rfl (lv_at hl 3 rfl) ?_
    refine lv_iconst (v := (-1)) hx hb d_Nd_add_39 (by decide) ?_
    refine lv_icmp_ne (tgt := 48) hx hb d_Nd_add_40 (by decide) (fun c_40 => ?_) (fun c_40 => ?_)
    · refine lv_iload_n hx hb d_Nd_add_48 rfl (lv_at hl 3 rfl) ?_
      rw [show F0 m 49 ls [.int y, .int (nI cnt), .ref (ad 15)] = F0 m 49 ls [.int (sdI y), .int (nI cnt), .ref (ad 15)] from by rw [sdI, if_neg c_40]]
      refine ry_iast (D := (dC, dI)) (j := cnt) hx hb hK hP hD hS 3 0 rfl rfl (by omega) (by decide) d_Nd_add_49 (fun H locs hP hD hS => ?_)
      have hP : va_P (dC, dI) classes [((ad 12), .inr (3, [.ref (ad 13), .ref (ad 14), .ref (ad 15), .ref (ad 16), .ref (ad 17), .int (nI unk), .int (nI cnt), .int sv, .int sk, .int ck])), ((ad 13), .inl (cI, 30, .inl (upd LO cnt (sdI x)))), ((ad 14), .inl (cI, 30, .inl (upd ST cnt k))), ((ad 15), .inl (cI, 30, .inl (upd HI cnt (sdI y)))), ((ad 16), .inl (cZ, 30, .inl KP)), ((ad 17), .inl (cI, 11, .inl NB))] H := hP
      have hD : va_D A [((ad 12), .inr (3, [.ref (ad 13), .ref (ad 14), .ref (ad 15), .ref (ad 16), .ref (ad 17), .int (nI unk), .int (nI cnt), .int sv, .int sk, .int ck])), ((ad 13), .inl (cI, 30, .inl (upd LO cnt (sdI x)))), ((ad 14), .inl (cI, 30, .inl (upd ST cnt k))), ((ad 15), .inl (cI, 30, .inl (upd HI cnt (sdI y)))), ((ad 16), .inl (cZ, 30, .inl KP)), ((ad 17), .inl (cI, 11, .inl NB))] := hD
      refine lv_aload_n hx hb d_Nd_add_50 rfl (lv_at hl 0 rfl) ?_
      refine lv_dup hx hb d_Nd_add_51 rfl ?_
      refine va_get (D := (dC, dI)) (ci := 3) (v := .int (nI cnt)) (C := R_Nd) (T := F_Nd) (N := 10) hx hb htb ul_Nd hown hK hP 0 rfl rfl 6 (by decide) (htb _ mw_84) (fun _ h9 => h9) rfl d_Nd_add_52 ?_
      refine lv_iconst (v := 1) hx hb d_Nd_add_55 (by decide) ?_
      refine lv_iadd hx hb d_Nd_add_56 ?_
      rw [nI_1]
      refine va_put (D := (dC, dI)) (ci := 3) (v := .int (nI (cnt + 1))) (ty := .int) (C := R_Nd) (T := F_Nd) (N := 10) hx hb htb ul_Nd t_Nd t_Nd_ok n_Nd hown hK hP hD hS 0 rfl rfl 6 (by decide) (htb _ mw_84) (fun _ h9 => h9) rfl (by decide +kernel) rfl rfl (Nat.le_of_ble_eq_true rfl) d_Nd_add_57 (fun H locs hP hD hS => ?_)
      have hP : va_P (dC, dI) classes [((ad 12), .inr (3, [.ref (ad 13), .ref (ad 14), .ref (ad 15), .ref (ad 16), .ref (ad 17), .int (nI unk), .int (nI (cnt + 1)), .int sv, .int sk, .int ck])), ((ad 13), .inl (cI, 30, .inl (upd LO cnt (sdI x)))), ((ad 14), .inl (cI, 30, .inl (upd ST cnt k))), ((ad 15), .inl (cI, 30, .inl (upd HI cnt (sdI y)))), ((ad 16), .inl (cZ, 30, .inl KP)), ((ad 17), .inl (cI, 11, .inl NB))] H := hP
      have hD : va_D A [((ad 12), .inr (3, [.ref (ad 13), .ref (ad 14), .ref (ad 15), .ref (ad 16), .ref (ad 17), .int (nI unk), .int (nI (cnt + 1)), .int sv, .int sk, .int ck])), ((ad 13), .inl (cI, 30, .inl (upd LO cnt (sdI x)))), ((ad 14), .inl (cI, 30, .inl (upd ST cnt k))), ((ad 15), .inl (cI, 30, .inl (upd HI cnt (sdI y)))), ((ad 16), .inl (cZ, 30, .inl KP)), ((ad 17), .inl (cI, 11, .inl NB))] := hD
      refine lv_aload_n hx hb d_Nd_add_60 rfl (lv_at hl 0 rfl) ?_
      refine wy_callV (n := 0) (wr := []) (As := []) (rest := []) ⟨hx, hb, hml, hown, htb⟩ (c_Nd_forget l dC dI cI cL cZ ad (upd LO cnt (sdI x)) (upd ST cnt k) (upd HI cnt (sdI y)) KP NB unk (cnt + 1) sv sk ck hunk (by omega) H.size) (gV mw_203 mw_205 mp_6 mw_4 mc_Nd_forget) rfl rfl (by decide +kernel) ⟨Nat.le_of_ble_eq_true rfl, Nat.le_of_ble_eq_true rfl⟩ hP hD hS hA hK [0, 1, 2, 3, 4, 5] [] rfl rfl (by decide) (by decide) (hP.sub [0, 1, 2, 3, 4, 5] rfl) ((hD.sub [0, 1, 2, 3, 4, 5] (by decide) rfl).weaken (fun _ _ _ _ => trivial)) (ci := 3) (q0 := 0) rfl rfl rfl rfl hl.1 rfl (Nat.le_of_ble_eq_true rfl) d_Nd_add_61 ⟨Nat.le_of_ble_eq_true rfl, Nat.le_of_ble_eq_true rfl⟩ (fun r u H locs hpost hP hD hS => ?_)
      have hP : va_P (dC, dI) classes [((ad 12), .inr (3, [.ref (ad 13), .ref (ad 14), .ref (ad 15), .ref (ad 16), .ref (ad 17), .int (nI unk), .int (nI (cnt + 1)), .int sv, .int 0, .int 0])), ((ad 13), .inl (cI, 30, .inl (upd LO cnt (sdI x)))), ((ad 14), .inl (cI, 30, .inl (upd ST cnt k))), ((ad 15), .inl (cI, 30, .inl (upd HI cnt (sdI y)))), ((ad 16), .inl (cZ, 30, .inl KP)), ((ad 17), .inl (cI, 11, .inl NB))] H := hP
      have hD : va_D A [((ad 12), .inr (3, [.ref (ad 13), .ref (ad 14), .ref (ad 15), .ref (ad 16), .ref (ad 17), .int (nI unk), .int (nI (cnt + 1)), .int sv, .int 0, .int 0])), ((ad 13), .inl (cI, 30, .inl (upd LO cnt (sdI x)))), ((ad 14), .inl (cI, 30, .inl (upd ST cnt k))), ((ad 15), .inl (cI, 30, .inl (upd HI cnt (sdI y)))), ((ad 16), .inl (cZ, 30, .inl KP)), ((ad 17), .inl (cI, 11, .inl NB))] := hD
      refine W.eq (g2 := F0 m 64 ls []) rfl ?_
      refine lv_aload_n hx hb d_Nd_add_64 rfl (lv_at hl 0 rfl) ?_
      refine va_get (D := (dC, dI)) (ci := 3) (v := .int (nI (cnt + 1))) (C := R_Nd) (T := F_Nd) (N := 10) hx hb htb ul_Nd hown hK hP 0 rfl rfl 6 (by decide) (htb _ mw_84) (fun _ h9 => h9) rfl d_Nd_add_65 ?_
      refine lv_iconst (v := 1) hx hb d_Nd_add_68 (by decide) ?_
      refine lv_isub hx hb d_Nd_add_69 ?_
      rw [nI_pred]
      exact W.iret (v := (nI cnt)) hx hb hr (fun t ht hW => ⟨⟨(nI cnt), (), rfl, rfl, by rw [ht]; exact hP, va_K.moved hW.alike hK, hD⟩, hS.F ht⟩) hS.2.2 d_Nd_add_70
    · refine lv_bipush (v := 10) hx hb d_Nd_add_43 (by decide) ?_
      refine lv_goto (tgt := 49) hx hb d_Nd_add_45 (by decide) ?_
      rw [show (10 : Int32) = sdI y from by rw [sdI, if_pos c_40]]
      refine ry_iast (D := (dC, dI)) (j := cnt) hx hb hK hP hD hS 3 0 rfl rfl (by omega) (by decide) d_Nd_add_49 (fun H locs hP hD hS => ?_)
      have hP : va_P (dC, dI) classes [((ad 12), .inr (3, [.ref (ad 13), .ref (ad 14), .ref (ad 15), .ref (ad 16), .ref (ad 17), .int (nI unk), .int (nI cnt), .int sv, .int sk, .int ck])), ((ad 13), .inl (cI, 30, .inl (upd LO cnt (sdI x)))), ((ad 14), .inl (cI, 30, .inl (upd ST cnt k))), ((ad 15), .inl (cI, 30, .inl (upd HI cnt (sdI y)))), ((ad 16), .inl (cZ, 30, .inl KP)), ((ad 17), .inl (cI, 11, .inl NB))] H := hP
      have hD : va_D A [((ad 12), .inr (3, [.ref (ad 13), .ref (ad 14), .ref (ad 15), .ref (ad 16), .ref (ad 17), .int (nI unk), .int (nI cnt), .int sv, .int sk, .int ck])), ((ad 13), .inl (cI, 30, .inl (upd LO cnt (sdI x)))), ((ad 14), .inl (cI, 30, .inl (upd ST cnt k))), ((ad 15), .inl (cI, 30, .inl (upd HI cnt (sdI y)))), ((ad 16), .inl (cZ, 30, .inl KP)), ((ad 17), .inl (cI, 11, .inl NB))] := hD
      refine lv_aload_n hx hb d_Nd_add_50 rfl (lv_at hl 0 rfl) ?_
      refine lv_dup hx hb d_Nd_add_51 rfl ?_
      refine va_get (D := (dC, dI)) (ci := 3) (v := .int (nI cnt)) (C := R_Nd) (T := F_Nd) (N := 10) hx hb htb ul_Nd hown hK hP 0 rfl rfl 6 (by decide) (htb _ mw_84) (fun _ h9 => h9) rfl d_Nd_add_52 ?_
      refine lv_iconst (v := 1) hx hb d_Nd_add_55 (by decide) ?_
      refine lv_iadd hx hb d_Nd_add_56 ?_
      rw [nI_1]
      refine va_put (D := (dC, dI)) (ci := 3) (v := .int (nI (cnt + 1))) (ty := .int) (C := R_Nd) (T := F_Nd) (N := 10) hx hb htb ul_Nd t_Nd t_Nd_ok n_Nd hown hK hP hD hS 0 rfl rfl 6 (by decide) (htb _ mw_84) (fun _ h9 => h9) rfl (by decide +kernel) rfl rfl (Nat.le_of_ble_eq_true rfl) d_Nd_add_57 (fun H locs hP hD hS => ?_)
      have hP : va_P (dC, dI) classes [((ad 12), .inr (3, [.ref (ad 13), .ref (ad 14), .ref (ad 15), .ref (ad 16), .ref (ad 17), .int (nI unk), .int (nI (cnt + 1)), .int sv, .int sk, .int ck])), ((ad 13), .inl (cI, 30, .inl (upd LO cnt (sdI x)))), ((ad 14), .inl (cI, 30, .inl (upd ST cnt k))), ((ad 15), .inl (cI, 30, .inl (upd HI cnt (sdI y)))), ((ad 16), .inl (cZ, 30, .inl KP)), ((ad 17), .inl (cI, 11, .inl NB))] H := hP
      have hD : va_D A [((ad 12), .inr (3, [.ref (ad 13), .ref (ad 14), .ref (ad 15), .ref (ad 16), .ref (ad 17), .int (nI unk), .int (nI (cnt + 1)), .int sv, .int sk, .int ck])), ((ad 13), .inl (cI, 30, .inl (upd LO cnt (sdI x)))), ((ad 14), .inl (cI, 30, .inl (upd ST cnt k))), ((ad 15), .inl (cI, 30, .inl (upd HI cnt (sdI y)))), ((ad 16), .inl (cZ, 30, .inl KP)), ((ad 17), .inl (cI, 11, .inl NB))] := hD
      refine lv_aload_n hx hb d_Nd_add_60 rfl (lv_at hl 0 rfl) ?_
      refine wy_callV (n := 0) (wr := []) (As := []) (rest := []) ⟨hx, hb, hml, hown, htb⟩ (c_Nd_forget l dC dI cI cL cZ ad (upd LO cnt (sdI x)) (upd ST cnt k) (upd HI cnt (sdI y)) KP NB unk (cnt + 1) sv sk ck hunk (by omega) H.size) (gV mw_203 mw_205 mp_6 mw_4 mc_Nd_forget) rfl rfl (by decide +kernel) ⟨Nat.le_of_ble_eq_true rfl, Nat.le_of_ble_eq_true rfl⟩ hP hD hS hA hK [0, 1, 2, 3, 4, 5] [] rfl rfl (by decide) (by decide) (hP.sub [0, 1, 2, 3, 4, 5] rfl) ((hD.sub [0, 1, 2, 3, 4, 5] (by decide) rfl).weaken (fun _ _ _ _ => trivial)) (ci := 3) (q0 := 0) rfl rfl rfl rfl hl.1 rfl (Nat.le_of_ble_eq_true rfl) d_Nd_add_61 ⟨Nat.le_of_ble_eq_true rfl, Nat.le_of_ble_eq_true rfl⟩ (fun r u H locs hpost hP hD hS => ?_)
      have hP : va_P (dC, dI) classes [((ad 12), .inr (3, [.ref (ad 13), .ref (ad 14), .ref (ad 15), .ref (ad 16), .ref (ad 17), .int (nI unk), .int (nI (cnt + 1)), .int sv, .int 0, .int 0])), ((ad 13), .inl (cI, 30, .inl (upd LO cnt (sdI x)))), ((ad 14), .inl (cI, 30, .inl (upd ST cnt k))), ((ad 15), .inl (cI, 30, .inl (upd HI cnt (sdI y)))), ((ad 16), .inl (cZ, 30, .inl KP)), ((ad 17), .inl (cI, 11, .inl NB))] H := hP
      have hD : va_D A [((ad 12), .inr (3, [.ref (ad 13), .ref (ad 14), .ref (ad 15), .ref (ad 16), .ref (ad 17), .int (nI unk), .int (nI (cnt + 1)), .int sv, .int 0, .int 0])), ((ad 13), .inl (cI, 30, .inl (upd LO cnt (sdI x)))), ((ad 14), .inl (cI, 30, .inl (upd ST cnt k))), ((ad 15), .inl (cI, 30, .inl (upd HI cnt (sdI y)))), ((ad 16), .inl (cZ, 30, .inl KP)), ((ad 17), .inl (cI, 11, .inl NB))] := hD
      refine W.eq (g2 := F0 m 64 ls []) rfl ?_
      refine lv_aload_n hx hb d_Nd_add_64 rfl (lv_at hl 0 rfl) ?_
      refine va_get (D := (dC, dI)) (ci := 3) (v := .int (nI (cnt + 1))) (C := R_Nd) (T := F_Nd) (N := 10) hx hb htb ul_Nd hown hK hP 0 rfl rfl 6 (by decide) (htb _ mw_84) (fun _ h9 => h9) rfl d_Nd_add_65 ?_
      refine lv_iconst (v := 1) hx hb d_Nd_add_68 (by decide) ?_
      refine lv_isub hx hb d_Nd_add_69 ?_
      rw [nI_pred]
      exact W.iret (v := (nI cnt)) hx hb hr (fun t ht hW => ⟨⟨(nI cnt), (), rfl, rfl, by rw [ht]; exact hP, va_K.moved hW.alike hK, hD⟩, hS.F ht⟩) hS.2.2 d_Nd_add_70
  · refine lv_bipush (v := 10) hx hb d_Nd_add_13 (by decide) ?_
    refine lv_goto (tgt := 19) hx hb d_Nd_add_15 (by decide) ?_
    rw [show (10 : Int32) = sdI x from by rw [sdI, if_pos c_10]]
    refine ry_iast (D := (dC, dI)) (j := cnt) hx hb hK hP hD hS 1 0 rfl rfl (by omega) (by decide) d_Nd_add_19 (fun H locs hP hD hS => ?_)
    have hP : va_P (dC, dI) classes [((ad 12), .inr (3, [.ref (ad 13), .ref (ad 14), .ref (ad 15), .ref (ad 16), .ref (ad 17), .int (nI unk), .int (nI cnt), .int sv, .int sk, .int ck])), ((ad 13), .inl (cI, 30, .inl (upd LO cnt (sdI x)))), ((ad 14), .inl (cI, 30, .inl ST)), ((ad 15), .inl (cI, 30, .inl HI)), ((ad 16), .inl (cZ, 30, .inl KP)), ((ad 17), .inl (cI, 11, .inl NB))] H := hP
    have hD : va_D A [((ad 12), .inr (3, [.ref (ad 13), .ref (ad 14), .ref (ad 15), .ref (ad 16), .ref (ad 17), .int (nI unk), .int (nI cnt), .int sv, .int sk, .int ck])), ((ad 13), .inl (cI, 30, .inl (upd LO cnt (sdI x)))), ((ad 14), .inl (cI, 30, .inl ST)), ((ad 15), .inl (cI, 30, .inl HI)), ((ad 16), .inl (cZ, 30, .inl KP)), ((ad 17), .inl (cI, 11, .inl NB))] := hD
    refine lv_aload_n hx hb d_Nd_add_20 rfl (lv_at hl 0 rfl) ?_
    refine va_get (D := (dC, dI)) (ci := 3) (v := .ref (ad 14)) (C := R_Nd) (T := F_Nd) (N := 10) hx hb htb ul_Nd hown hK hP 0 rfl rfl 1 (by decide) (htb _ mw_79) (fun _ h9 => h9) rfl d_Nd_add_21 ?_
    refine lv_aload_n hx hb d_Nd_add_24 rfl (lv_at hl 0 rfl) ?_
    refine va_get (D := (dC, dI)) (ci := 3) (v := .int (nI cnt)) (C := R_Nd) (T := F_Nd) (N := 10) hx hb htb ul_Nd hown hK hP 0 rfl rfl 6 (by decide) (htb _ mw_84) (fun _ h9 => h9) rfl d_Nd_add_25 ?_
    refine lv_iload_n hx hb d_Nd_add_28 rfl (lv_at hl 2 rfl) ?_
    refine ry_iast (D := (dC, dI)) (j := cnt) hx hb hK hP hD hS 2 0 rfl rfl (by omega) (by decide) d_Nd_add_29 (fun H locs hP hD hS => ?_)
    have hP : va_P (dC, dI) classes [((ad 12), .inr (3, [.ref (ad 13), .ref (ad 14), .ref (ad 15), .ref (ad 16), .ref (ad 17), .int (nI unk), .int (nI cnt), .int sv, .int sk, .int ck])), ((ad 13), .inl (cI, 30, .inl (upd LO cnt (sdI x)))), ((ad 14), .inl (cI, 30, .inl (upd ST cnt k))), ((ad 15), .inl (cI, 30, .inl HI)), ((ad 16), .inl (cZ, 30, .inl KP)), ((ad 17), .inl (cI, 11, .inl NB))] H := hP
    have hD : va_D A [((ad 12), .inr (3, [.ref (ad 13), .ref (ad 14), .ref (ad 15), .ref (ad 16), .ref (ad 17), .int (nI unk), .int (nI cnt), .int sv, .int sk, .int ck])), ((ad 13), .inl (cI, 30, .inl (upd LO cnt (sdI x)))), ((ad 14), .inl (cI, 30, .inl (upd ST cnt k))), ((ad 15), .inl (cI, 30, .inl HI)), ((ad 16), .inl (cZ, 30, .inl KP)), ((ad 17), .inl (cI, 11, .inl NB))] := hD
    refine lv_aload_n hx hb d_Nd_add_30 rfl (lv_at hl 0 rfl) ?_
    refine va_get (D := (dC, dI)) (ci := 3) (v := .ref (ad 15)) (C := R_Nd) (T := F_Nd) (N := 10) hx hb htb ul_Nd hown hK hP 0 rfl rfl 2 (by decide) (htb _ mw_80) (fun _ h9 => h9) rfl d_Nd_add_31 ?_
    refine lv_aload_n hx hb d_Nd_add_34 rfl (lv_at hl 0 rfl) ?_
    refine va_get (D := (dC, dI)) (ci := 3) (v := .int (nI cnt)) (C := R_Nd) (T := F_Nd) (N := 10) hx hb htb ul_Nd hown hK hP 0 rfl rfl 6 (by decide) (htb _ mw_84) (fun _ h9 => h9) rfl d_Nd_add_35 ?_
    refine lv_iload_n hx hb d_Nd_add_38 rfl (lv_at hl 3 rfl) ?_
    refine lv_iconst (v := (-1)) hx hb d_Nd_add_39 (by decide) ?_
    refine lv_icmp_ne (tgt := 48) hx hb d_Nd_add_40 (by decide) (fun c_40 => ?_) (fun c_40 => ?_)
    · refine lv_iload_n hx hb d_Nd_add_48 rfl (lv_at hl 3 rfl) ?_
      rw [show F0 m 49 ls [.int y, .int (nI cnt), .ref (ad 15)] = F0 m 49 ls [.int (sdI y), .int (nI cnt), .ref (ad 15)] from by rw [sdI, if_neg c_40]]
      refine ry_iast (D := (dC, dI)) (j := cnt) hx hb hK hP hD hS 3 0 rfl rfl (by omega) (by decide) d_Nd_add_49 (fun H locs hP hD hS => ?_)
      have hP : va_P (dC, dI) classes [((ad 12), .inr (3, [.ref (ad 13), .ref (ad 14), .ref (ad 15), .ref (ad 16), .ref (ad 17), .int (nI unk), .int (nI cnt), .int sv, .int sk, .int ck])), ((ad 13), .inl (cI, 30, .inl (upd LO cnt (sdI x)))), ((ad 14), .inl (cI, 30, .inl (upd ST cnt k))), ((ad 15), .inl (cI, 30, .inl (upd HI cnt (sdI y)))), ((ad 16), .inl (cZ, 30, .inl KP)), ((ad 17), .inl (cI, 11, .inl NB))] H := hP
      have hD : va_D A [((ad 12), .inr (3, [.ref (ad 13), .ref (ad 14), .ref (ad 15), .ref (ad 16), .ref (ad 17), .int (nI unk), .int (nI cnt), .int sv, .int sk, .int ck])), ((ad 13), .inl (cI, 30, .inl (upd LO cnt (sdI x)))), ((ad 14), .inl (cI, 30, .inl (upd ST cnt k))), ((ad 15), .inl (cI, 30, .inl (upd HI cnt (sdI y)))), ((ad 16), .inl (cZ, 30, .inl KP)), ((ad 17), .inl (cI, 11, .inl NB))] := hD
      refine lv_aload_n hx hb d_Nd_add_50 rfl (lv_at hl 0 rfl) ?_
      refine lv_dup hx hb d_Nd_add_51 rfl ?_
      refine va_get (D := (dC, dI)) (ci := 3) (v := .int (nI cnt)) (C := R_Nd) (T := F_Nd) (N := 10) hx hb htb ul_Nd hown hK hP 0 rfl rfl 6 (by decide) (htb _ mw_84) (fun _ h9 => h9) rfl d_Nd_add_52 ?_
      refine lv_iconst (v := 1) hx hb d_Nd_add_55 (by decide) ?_
      refine lv_iadd hx hb d_Nd_add_56 ?_
      rw [nI_1]
      refine va_put (D := (dC, dI)) (ci := 3) (v := .int (nI (cnt + 1))) (ty := .int) (C := R_Nd) (T := F_Nd) (N := 10) hx hb htb ul_Nd t_Nd t_Nd_ok n_Nd hown hK hP hD hS 0 rfl rfl 6 (by decide) (htb _ mw_84) (fun _ h9 => h9) rfl (by decide +kernel) rfl rfl (Nat.le_of_ble_eq_true rfl) d_Nd_add_57 (fun H locs hP hD hS => ?_)
      have hP : va_P (dC, dI) classes [((ad 12), .inr (3, [.ref (ad 13), .ref (ad 14), .ref (ad 15), .ref (ad 16), .ref (ad 17), .int (nI unk), .int (nI (cnt + 1)), .int sv, .int sk, .int ck])), ((ad 13), .inl (cI, 30, .inl (upd LO cnt (sdI x)))), ((ad 14), .inl (cI, 30, .inl (upd ST cnt k))), ((ad 15), .inl (cI, 30, .inl (upd HI cnt (sdI y)))), ((ad 16), .inl (cZ, 30, .inl KP)), ((ad 17), .inl (cI, 11, .inl NB))] H := hP
      have hD : va_D A [((ad 12), .inr (3, [.ref (ad 13), .ref (ad 14), .ref (ad 15), .ref (ad 16), .ref (ad 17), .int (nI unk), .int (nI (cnt + 1)), .int sv, .int sk, .int ck])), ((ad 13), .inl (cI, 30, .inl (upd LO cnt (sdI x)))), ((ad 14), .inl (cI, 30, .inl (upd ST cnt k))), ((ad 15), .inl (cI, 30, .inl (upd HI cnt (sdI y)))), ((ad 16), .inl (cZ, 30, .inl KP)), ((ad 17), .inl (cI, 11, .inl NB))] := hD
      refine lv_aload_n hx hb d_Nd_add_60 rfl (lv_at hl 0 rfl) ?_
      refine wy_callV (n := 0) (wr := []) (As := []) (rest := []) ⟨hx, hb, hml, hown, htb⟩ (c_Nd_forget l dC dI cI cL cZ ad (upd LO cnt (sdI x)) (upd ST cnt k) (upd HI cnt (sdI y)) KP NB unk (cnt + 1) sv sk ck hunk (by omega) H.size) (gV mw_203 mw_205 mp_6 mw_4 mc_Nd_forget) rfl rfl (by decide +kernel) ⟨Nat.le_of_ble_eq_true rfl, Nat.le_of_ble_eq_true rfl⟩ hP hD hS hA hK [0, 1, 2, 3, 4, 5] [] rfl rfl (by decide) (by decide) (hP.sub [0, 1, 2, 3, 4, 5] rfl) ((hD.sub [0, 1, 2, 3, 4, 5] (by decide) rfl).weaken (fun _ _ _ _ => trivial)) (ci := 3) (q0 := 0) rfl rfl rfl rfl hl.1 rfl (Nat.le_of_ble_eq_true rfl) d_Nd_add_61 ⟨Nat.le_of_ble_eq_true rfl, Nat.le_of_ble_eq_true rfl⟩ (fun r u H locs hpost hP hD hS => ?_)
      have hP : va_P (dC, dI) classes [((ad 12), .inr (3, [.ref (ad 13), .ref (ad 14), .ref (ad 15), .ref (ad 16), .ref (ad 17), .int (nI unk), .int (nI (cnt + 1)), .int sv, .int 0, .int 0])), ((ad 13), .inl (cI, 30, .inl (upd LO cnt (sdI x)))), ((ad 14), .inl (cI, 30, .inl (upd ST cnt k))), ((ad 15), .inl (cI, 30, .inl (upd HI cnt (sdI y)))), ((ad 16), .inl (cZ, 30, .inl KP)), ((ad 17), .inl (cI, 11, .inl NB))] H := hP
      have hD : va_D A [((ad 12), .inr (3, [.ref (ad 13), .ref (ad 14), .ref (ad 15), .ref (ad 16), .ref (ad 17), .int (nI unk), .int (nI (cnt + 1)), .int sv, .int 0, .int 0])), ((ad 13), .inl (cI, 30, .inl (upd LO cnt (sdI x)))), ((ad 14), .inl (cI, 30, .inl (upd ST cnt k))), ((ad 15), .inl (cI, 30, .inl (upd HI cnt (sdI y)))), ((ad 16), .inl (cZ, 30, .inl KP)), ((ad 17), .inl (cI, 11, .inl NB))] := hD
      refine W.eq (g2 := F0 m 64 ls []) rfl ?_
      refine lv_aload_n hx hb d_Nd_add_64 rfl (lv_at hl 0 rfl) ?_
      refine va_get (D := (dC, dI)) (ci := 3) (v := .int (nI (cnt + 1))) (C := R_Nd) (T := F_Nd) (N := 10) hx hb htb ul_Nd hown hK hP 0 rfl rfl 6 (by decide) (htb _ mw_84) (fun _ h9 => h9) rfl d_Nd_add_65 ?_
      refine lv_iconst (v := 1) hx hb d_Nd_add_68 (by decide) ?_
      refine lv_isub hx hb d_Nd_add_69 ?_
      rw [nI_pred]
      exact W.iret (v := (nI cnt)) hx hb hr (fun t ht hW => ⟨⟨(nI cnt), (), rfl, rfl, by rw [ht]; exact hP, va_K.moved hW.alike hK, hD⟩, hS.F ht⟩) hS.2.2 d_Nd_add_70
    · refine lv_bipush (v := 10) hx hb d_Nd_add_43 (by decide) ?_
      refine lv_goto (tgt := 49) hx hb d_Nd_add_45 (by decide) ?_
      rw [show (10 : Int32) = sdI y from by rw [sdI, if_pos c_40]]
      refine ry_iast (D := (dC, dI)) (j := cnt) hx hb hK hP hD hS 3 0 rfl rfl (by omega) (by decide) d_Nd_add_49 (fun H locs hP hD hS => ?_)
      have hP : va_P (dC, dI) classes [((ad 12), .inr (3, [.ref (ad 13), .ref (ad 14), .ref (ad 15), .ref (ad 16), .ref (ad 17), .int (nI unk), .int (nI cnt), .int sv, .int sk, .int ck])), ((ad 13), .inl (cI, 30, .inl (upd LO cnt (sdI x)))), ((ad 14), .inl (cI, 30, .inl (upd ST cnt k))), ((ad 15), .inl (cI, 30, .inl (upd HI cnt (sdI y)))), ((ad 16), .inl (cZ, 30, .inl KP)), ((ad 17), .inl (cI, 11, .inl NB))] H := hP
      have hD : va_D A [((ad 12), .inr (3, [.ref (ad 13), .ref (ad 14), .ref (ad 15), .ref (ad 16), .ref (ad 17), .int (nI unk), .int (nI cnt), .int sv, .int sk, .int ck])), ((ad 13), .inl (cI, 30, .inl (upd LO cnt (sdI x)))), ((ad 14), .inl (cI, 30, .inl (upd ST cnt k))), ((ad 15), .inl (cI, 30, .inl (upd HI cnt (sdI y)))), ((ad 16), .inl (cZ, 30, .inl KP)), ((ad 17), .inl (cI, 11, .inl NB))] := hD
      refine lv_aload_n hx hb d_Nd_add_50 rfl (lv_at hl 0 rfl) ?_
      refine lv_dup hx hb d_Nd_add_51 rfl ?_
      refine va_get (D := (dC, dI)) (ci := 3) (v := .int (nI cnt)) (C := R_Nd) (T := F_Nd) (N := 10) hx hb htb ul_Nd hown hK hP 0 rfl rfl 6 (by decide) (htb _ mw_84) (fun _ h9 => h9) rfl d_Nd_add_52 ?_
      refine lv_iconst (v := 1) hx hb d_Nd_add_55 (by decide) ?_
      refine lv_iadd hx hb d_Nd_add_56 ?_
      rw [nI_1]
      refine va_put (D := (dC, dI)) (ci := 3) (v := .int (nI (cnt + 1))) (ty := .int) (C := R_Nd) (T := F_Nd) (N := 10) hx hb htb ul_Nd t_Nd t_Nd_ok n_Nd hown hK hP hD hS 0 rfl rfl 6 (by decide) (htb _ mw_84) (fun _ h9 => h9) rfl (by decide +kernel) rfl rfl (Nat.le_of_ble_eq_true rfl) d_Nd_add_57 (fun H locs hP hD hS => ?_)
      have hP : va_P (dC, dI) classes [((ad 12), .inr (3, [.ref (ad 13), .ref (ad 14), .ref (ad 15), .ref (ad 16), .ref (ad 17), .int (nI unk), .int (nI (cnt + 1)), .int sv, .int sk, .int ck])), ((ad 13), .inl (cI, 30, .inl (upd LO cnt (sdI x)))), ((ad 14), .inl (cI, 30, .inl (upd ST cnt k))), ((ad 15), .inl (cI, 30, .inl (upd HI cnt (sdI y)))), ((ad 16), .inl (cZ, 30, .inl KP)), ((ad 17), .inl (cI, 11, .inl NB))] H := hP
      have hD : va_D A [((ad 12), .inr (3, [.ref (ad 13), .ref (ad 14), .ref (ad 15), .ref (ad 16), .ref (ad 17), .int (nI unk), .int (nI (cnt + 1)), .int sv, .int sk, .int ck])), ((ad 13), .inl (cI, 30, .inl (upd LO cnt (sdI x)))), ((ad 14), .inl (cI, 30, .inl (upd ST cnt k))), ((ad 15), .inl (cI, 30, .inl (upd HI cnt (sdI y)))), ((ad 16), .inl (cZ, 30, .inl KP)), ((ad 17), .inl (cI, 11, .inl NB))] := hD
      refine lv_aload_n hx hb d_Nd_add_60 rfl (lv_at hl 0 rfl) ?_
      refine wy_callV (n := 0) (wr := []) (As := []) (rest := []) ⟨hx, hb, hml, hown, htb⟩ (c_Nd_forget l dC dI cI cL cZ ad (upd LO cnt (sdI x)) (upd ST cnt k) (upd HI cnt (sdI y)) KP NB unk (cnt + 1) sv sk ck hunk (by omega) H.size) (gV mw_203 mw_205 mp_6 mw_4 mc_Nd_forget) rfl rfl (by decide +kernel) ⟨Nat.le_of_ble_eq_true rfl, Nat.le_of_ble_eq_true rfl⟩ hP hD hS hA hK [0, 1, 2, 3, 4, 5] [] rfl rfl (by decide) (by decide) (hP.sub [0, 1, 2, 3, 4, 5] rfl) ((hD.sub [0, 1, 2, 3, 4, 5] (by decide) rfl).weaken (fun _ _ _ _ => trivial)) (ci := 3) (q0 := 0) rfl rfl rfl rfl hl.1 rfl (Nat.le_of_ble_eq_true rfl) d_Nd_add_61 ⟨Nat.le_of_ble_eq_true rfl, Nat.le_of_ble_eq_true rfl⟩ (fun r u H locs hpost hP hD hS => ?_)
      have hP : va_P (dC, dI) classes [((ad 12), .inr (3, [.ref (ad 13), .ref (ad 14), .ref (ad 15), .ref (ad 16), .ref (ad 17), .int (nI unk), .int (nI (cnt + 1)), .int sv, .int 0, .int 0])), ((ad 13), .inl (cI, 30, .inl (upd LO cnt (sdI x)))), ((ad 14), .inl (cI, 30, .inl (upd ST cnt k))), ((ad 15), .inl (cI, 30, .inl (upd HI cnt (sdI y)))), ((ad 16), .inl (cZ, 30, .inl KP)), ((ad 17), .inl (cI, 11, .inl NB))] H := hP
      have hD : va_D A [((ad 12), .inr (3, [.ref (ad 13), .ref (ad 14), .ref (ad 15), .ref (ad 16), .ref (ad 17), .int (nI unk), .int (nI (cnt + 1)), .int sv, .int 0, .int 0])), ((ad 13), .inl (cI, 30, .inl (upd LO cnt (sdI x)))), ((ad 14), .inl (cI, 30, .inl (upd ST cnt k))), ((ad 15), .inl (cI, 30, .inl (upd HI cnt (sdI y)))), ((ad 16), .inl (cZ, 30, .inl KP)), ((ad 17), .inl (cI, 11, .inl NB))] := hD
      refine W.eq (g2 := F0 m 64 ls []) rfl ?_
      refine lv_aload_n hx hb d_Nd_add_64 rfl (lv_at hl 0 rfl) ?_
      refine va_get (D := (dC, dI)) (ci := 3) (v := .int (nI (cnt + 1))) (C := R_Nd) (T := F_Nd) (N := 10) hx hb htb ul_Nd hown hK hP 0 rfl rfl 6 (by decide) (htb _ mw_84) (fun _ h9 => h9) rfl d_Nd_add_65 ?_
      refine lv_iconst (v := 1) hx hb d_Nd_add_68 (by decide) ?_
      refine lv_isub hx hb d_Nd_add_69 ?_
      rw [nI_pred]
      exact W.iret (v := (nI cnt)) hx hb hr (fun t ht hW => ⟨⟨(nI cnt), (), rfl, rfl, by rw [ht]; exact hP, va_K.moved hW.alike hK, hD⟩, hS.F ht⟩) hS.2.2 d_Nd_add_70
end
section
/-! The reference: its cells. -/
abbrev wMo (cI cZ : ClassId) (bd : Nat → Nat) (th : Int32) (K F S DD : Nat → Int32) (n : Nat) (NU VA BE WA LE AA RI UN CO : Nat → Int32) (unk cnt : Nat) : va_W := [(bd 0, .inr (4, [.int th, .ref (bd 1), .ref (bd 2), .ref (bd 3), .ref (bd 4), .int (nI n), .ref (bd 5), .ref (bd 6), .ref (bd 7), .ref (bd 8), .ref (bd 9), .ref (bd 10), .ref (bd 11), .ref (bd 12), .ref (bd 13), .int (nI unk), .int (nI cnt)])), (bd 1, .inl (cI, 120, .inl K)), (bd 2, .inl (cI, 120, .inl F)), (bd 3, .inl (cI, 120, .inl S)), (bd 4, .inl (cI, 120, .inl DD)), (bd 5, .inl (cI, 5, .inl NU)), (bd 6, .inl (cI, 120, .inl VA)), (bd 7, .inl (cI, 120, .inl BE)), (bd 8, .inl (cI, 128, .inl WA)), (bd 9, .inl (cI, 30, .inl LE)), (bd 10, .inl (cI, 30, .inl AA)), (bd 11, .inl (cI, 30, .inl RI)), (bd 12, .inl (cI, 10, .inl UN)), (bd 13, .inl (cZ, 30, .inl CO))]
def sdm (x : Int32) (unk : Nat) : Int32 := if x < -1 then 0 else if nI unk ≤ x then 0 else 1
abbrev MoS : Type := (Nat → Int32) × (Nat → Int32) × (Nat → Int32) × (Nat → Int32) × Nat
def MoOk (nd : Nat → Nat × Nat × Nat) (n : Nat) (K F S DD : Nat → Int32) : Prop := Wn nd n ∧ Rw nd n K F S ∧ ∀ j, j < n → DD j = nI (dp nd j)
def MoU (nd : Nat → Nat × Nat × Nat) (u : MoS) : Prop := MoOk nd u.2.2.2.2 u.1 u.2.1 u.2.2.1 u.2.2.2.1
theorem ext_mo {nd : Nat → Nat × Nat × Nat} {n : Nat} {K F S DD : Nat → Int32} {q : Nat × Nat × Nat} (h : MoOk nd n K F S DD) (hq : rowOk q n) (hn : n < 120) (hnew : ∀ j, j < n → nd j ≠ q) (hd : ¬ (q.1 = 2 ∧ 60 ≤ dp nd q.2.1)) : MoOk (ext nd n q) (n + 1) (upd K n (nI q.1)) (upd F n (fF q)) (upd S n (fS q)) (upd DD n (nI (dp (ext nd n q) n))) := by
  obtain ⟨hW, hR, hD⟩ := h
  refine ⟨ext_Wn hW hq hn hnew hd, fun j hj => ?_, fun j hj => ?_⟩
  · rcases Nat.lt_or_ge j n with a | a
    · rw [pk_un (by omega), pk_un (by omega), pk_un (by omega), ext_lt a]; exact hR j a
    · rw [show j = n by omega, pk_us, pk_us, pk_us, ext_n]; exact ⟨rfl, rfl, rfl⟩
  · rcases Nat.lt_or_ge j n with a | a
    · rw [pk_un (by omega), hD j a]; unfold dp; rw [ext_fo a]
    · rw [show j = n by omega, pk_us]
/-- what came of 'make': a row, or -1 where the table is full -/
def mkm (nd : Nat → Nat × Nat × Nat) (n : Nat) (q : Nat × Nat × Nat) (r : Int32) (nd' : Nat → Nat × Nat × Nat) (n' : Nat) : Prop := mkd nd n q r nd' n' ∨ ((∀ j, j < n → nd j ≠ q) ∧ n = 120 ∧ r = -1 ∧ nd' = nd ∧ n' = n)
end
section
set_option maxHeartbeats 4000000 in
set_option maxRecDepth 100000 in
theorem c_Mo_thrown (l : Launch) (dC : Nat → ClassId) (dI : Nat → Nat → Nat) (cI cL cZ : ClassId) (bd : Nat → Nat) (th : Int32) (K F S DD : Nat → Int32) (n : Nat) (NU VA BE WA LE AA RI UN CO : Nat → Int32) (unk cnt : Nat) (hn : n ≤ 120) (hunk : unk ≤ 10) (hcnt : cnt ≤ 30)  : Met l y_Mo_thrown (cw_Mo_thrown :: tb) (rmH 1 0 0) (va_Pc [.ref (bd 0)] (ry_P (dC, dI) classes (wMo cI cZ bd th K F S DD n NU VA BE WA LE AA RI UN CO unk cnt) (tyI cI cL cZ))) (ry_S ry_i (fun r => r = th)) 0 0 (fun _ => False) := by
  refine Met.ofW (cc := b_Mo_thrown) (maxL := 1) (ret := (some .int)) (by decide +kernel) rfl ?_
  intro p e s m args below meth c s₁ B hml0 hv
  have C0 := cx_of B hml0 rfl
  obtain ⟨hx, hb, hr, hml, hown, htb, hlocks⟩ := id C0
  obtain ⟨rfl, hP, hK⟩ := hv
  have hl := lv_entry ([.ref (bd 0)]) (n := 1) (Nat.le_of_ble_eq_true rfl)
  rw [lg_entry_eq]
  generalize (lg_sl ([.ref (bd 0)]) ++ List.replicate (1 - (lg_sl ([.ref (bd 0)])).length) Slot.unset).toArray = ls at hl ⊢
  have hl : lv_has ls 1 [(0, .ref (bd 0))] := hl
  have hP : va_P (dC, dI) classes [((bd 0), .inr (4, [.int th, .ref (bd 1), .ref (bd 2), .ref (bd 3), .ref (bd 4), .int (nI n), .ref (bd 5), .ref (bd 6), .ref (bd 7), .ref (bd 8), .ref (bd 9), .ref (bd 10), .ref (bd 11), .ref (bd 12), .ref (bd 13), .int (nI unk), .int (nI cnt)])), ((bd 1), .inl (cI, 120, .inl K)), ((bd 2), .inl (cI, 120, .inl F)), ((bd 3), .inl (cI, 120, .inl S)), ((bd 4), .inl (cI, 120, .inl DD)), ((bd 5), .inl (cI, 5, .inl NU)), ((bd 6), .inl (cI, 120, .inl VA)), ((bd 7), .inl (cI, 120, .inl BE)), ((bd 8), .inl (cI, 128, .inl WA)), ((bd 9), .inl (cI, 30, .inl LE)), ((bd 10), .inl (cI, 30, .inl AA)), ((bd 11), .inl (cI, 30, .inl RI)), ((bd 12), .inl (cI, 10, .inl UN)), ((bd 13), .inl (cZ, 30, .inl CO))] s.heap := hP
  refine lv_aload_n hx hb d_Mo_thrown_0 rfl (lv_at hl 0 rfl) ?_
  refine va_get (D := (dC, dI)) (ci := 4) (v := .int th) (C := R_Mo) (T := F_Mo) (N := 17) hx hb htb ul_Mo hown hK hP 0 rfl rfl 0 (by decide) (htb _ mw_548) (fun _ h9 => h9) rfl d_Mo_thrown_1 ?_
  exact W.iret (v := th) hx hb hr (fun t ht hW => ⟨th, rfl, rfl, ht⟩) (fun _ h => by cases h) d_Mo_thrown_4

set_option maxHeartbeats 4000000 in
set_option maxRecDepth 100000 in
theorem c_Mo_isLevel (l : Launch) (dC : Nat → ClassId) (dI : Nat → Nat → Nat) (cI cL cZ : ClassId) (bd : Nat → Nat) (th : Int32) (K F S DD : Nat → Int32) (n : Nat) (NU VA BE WA LE AA RI UN CO : Nat → Int32) (unk cnt : Nat) (hn : n ≤ 120) (hunk : unk ≤ 10) (hcnt : cnt ≤ 30) (x : Int32) : Met l y_Mo_isLevel (cw_Mo_isLevel :: tb) (rmH 1 0 0) (va_Pc [.ref (bd 0), .int x] (ry_P (dC, dI) classes (wMo cI cZ bd th K F S DD n NU VA BE WA LE AA RI UN CO unk cnt) (tyI cI cL cZ))) (ry_S ry_i (fun r => r = hs x n)) 0 0 (fun _ => False) := by
  refine Met.ofW (cc := b_Mo_isLevel) (maxL := 2) (ret := (some .boolean)) (by decide +kernel) rfl ?_
  intro p e s m args below meth c s₁ B hml0 hv
  have C0 := cx_of B hml0 rfl
  obtain ⟨hx, hb, hr, hml, hown, htb, hlocks⟩ := id C0
  obtain ⟨rfl, hP, hK⟩ := hv
  have hl := lv_entry ([.ref (bd 0), .int x]) (n := 2) (Nat.le_of_ble_eq_true rfl)
  rw [lg_entry_eq]
  generalize (lg_sl ([.ref (bd 0), .int x]) ++ List.replicate (2 - (lg_sl ([.ref (bd 0), .int x])).length) Slot.unset).toArray = ls at hl ⊢
  have hl : lv_has ls 2 [(0, .ref (bd 0)), (1, .int x)] := hl
  have hP : va_P (dC, dI) classes [((bd 0), .inr (4, [.int th, .ref (bd 1), .ref (bd 2), .ref (bd 3), .ref (bd 4), .int (nI n), .ref (bd 5), .ref (bd 6), .ref (bd 7), .ref (bd 8), .ref (bd 9), .ref (bd 10), .ref (bd 11), .ref (bd 12), .ref (bd 13), .int (nI unk), .int (nI cnt)])), ((bd 1), .inl (cI, 120, .inl K)), ((bd 2), .inl (cI, 120, .inl F)), ((bd 3), .inl (cI, 120, .inl S)), ((bd 4), .inl (cI, 120, .inl DD)), ((bd 5), .inl (cI, 5, .inl NU)), ((bd 6), .inl (cI, 120, .inl VA)), ((bd 7), .inl (cI, 120, .inl BE)), ((bd 8), .inl (cI, 128, .inl WA)), ((bd 9), .inl (cI, 30, .inl LE)), ((bd 10), .inl (cI, 30, .inl AA)), ((bd 11), .inl (cI, 30, .inl RI)), ((bd 12), .inl (cI, 10, .inl UN)), ((bd 13), .inl (cZ, 30, .inl CO))] s.heap := hP
  refine lv_iload_n hx hb d_Mo_isLevel_0 rfl (lv_at hl 1 rfl) ?_
  refine lv_if_lt (tgt := 16) hx hb d_Mo_isLevel_1 (by decide) (fun c_1 => ?_) (fun c_1 => ?_)
  · refine lv_iconst (v := 0) hx hb d_Mo_isLevel_16 (by decide) ?_
    exact W.zret (v := 0) hx hb hr rfl (fun t ht hW => ⟨0, rfl, (by rw [hs, if_pos c_1]), ht⟩) (fun _ h => by cases h) d_Mo_isLevel_17
  · refine lv_iload_n hx hb d_Mo_isLevel_4 rfl (lv_at hl 1 rfl) ?_
    refine lv_aload_n hx hb d_Mo_isLevel_5 rfl (lv_at hl 0 rfl) ?_
    refine va_get (D := (dC, dI)) (ci := 4) (v := .int (nI n)) (C := R_Mo) (T := F_Mo) (N := 17) hx hb htb ul_Mo hown hK hP 0 rfl rfl 5 (by decide) (htb _ mw_553) (fun _ h9 => h9) rfl d_Mo_isLevel_6 ?_
    refine lv_icmp_ge (tgt := 16) hx hb d_Mo_isLevel_9 (by decide) (fun c_9 => ?_) (fun c_9 => ?_)
    · refine lv_iconst (v := 0) hx hb d_Mo_isLevel_16 (by decide) ?_
      exact W.zret (v := 0) hx hb hr rfl (fun t ht hW => ⟨0, rfl, (by rw [hs, if_neg c_1, if_pos c_9]), ht⟩) (fun _ h => by cases h) d_Mo_isLevel_17
    · refine lv_iconst (v := 1) hx hb d_Mo_isLevel_12 (by decide) ?_
      refine lv_goto (tgt := 17) hx hb d_Mo_isLevel_13 (by decide) ?_
      exact W.zret (v := 1) hx hb hr rfl (fun t ht hW => ⟨1, rfl, (by rw [hs, if_neg c_1, if_neg c_9]), ht⟩) (fun _ h => by cases h) d_Mo_isLevel_17

set_option maxHeartbeats 4000000 in
set_option maxRecDepth 100000 in
theorem c_Mo_isSide (l : Launch) (dC : Nat → ClassId) (dI : Nat → Nat → Nat) (cI cL cZ : ClassId) (bd : Nat → Nat) (th : Int32) (K F S DD : Nat → Int32) (n : Nat) (NU VA BE WA LE AA RI UN CO : Nat → Int32) (unk cnt : Nat) (hn : n ≤ 120) (hunk : unk ≤ 10) (hcnt : cnt ≤ 30) (x : Int32) : Met l y_Mo_isSide (cw_Mo_isSide :: tb) (rmH 1 0 0) (va_Pc [.ref (bd 0), .int x] (ry_P (dC, dI) classes (wMo cI cZ bd th K F S DD n NU VA BE WA LE AA RI UN CO unk cnt) (tyI cI cL cZ))) (ry_S ry_i (fun r => r = sdm x unk)) 0 0 (fun _ => False) := by
  refine Met.ofW (cc := b_Mo_isSide) (maxL := 2) (ret := (some .boolean)) (by decide +kernel) rfl ?_
  intro p e s m args below meth c s₁ B hml0 hv
  have C0 := cx_of B hml0 rfl
  obtain ⟨hx, hb, hr, hml, hown, htb, hlocks⟩ := id C0
  obtain ⟨rfl, hP, hK⟩ := hv
  have hl := lv_entry ([.ref (bd 0), .int x]) (n := 2) (Nat.le_of_ble_eq_true rfl)
  rw [lg_entry_eq]
  generalize (lg_sl ([.ref (bd 0), .int x]) ++ List.replicate (2 - (lg_sl ([.ref (bd 0), .int x])).length) Slot.unset).toArray = ls at hl ⊢
  have hl : lv_has ls 2 [(0, .ref (bd 0)), (1, .int x)] := hl
  have hP : va_P (dC, dI) classes [((bd 0), .inr (4, [.int th, .ref (bd 1), .ref (bd 2), .ref (bd 3), .ref (bd 4), .int (nI n), .ref (bd 5), .ref (bd 6), .ref (bd 7), .ref (bd 8), .ref (bd 9), .ref (bd 10), .ref (bd 11), .ref (bd 12), .ref (bd 13), .int (nI unk), .int (nI cnt)])), ((bd 1), .inl (cI, 120, .inl K)), ((bd 2), .inl (cI, 120, .inl F)), ((bd 3), .inl (cI, 120, .inl S)), ((bd 4), .inl (cI, 120, .inl DD)), ((bd 5), .inl (cI, 5, .inl NU)), ((bd 6), .inl (cI, 120, .inl VA)), ((bd 7), .inl (cI, 120, .inl BE)), ((bd 8), .inl (cI, 128, .inl WA)), ((bd 9), .inl (cI, 30, .inl LE)), ((bd 10), .inl (cI, 30, .inl AA)), ((bd 11), .inl (cI, 30, .inl RI)), ((bd 12), .inl (cI, 10, .inl UN)), ((bd 13), .inl (cZ, 30, .inl CO))] s.heap := hP
  refine lv_iload_n hx hb d_Mo_isSide_0 rfl (lv_at hl 1 rfl) ?_
  refine lv_iconst (v := (-1)) hx hb d_Mo_isSide_1 (by decide) ?_
  refine lv_icmp_lt (tgt := 17) hx hb d_Mo_isSide_2 (by decide) (fun c_2 => ?_) (fun c_2 => ?_)
  · refine lv_iconst (v := 0) hx hb d_Mo_isSide_17 (by decide) ?_
    exact W.zret (v := 0) hx hb hr rfl (fun t ht hW => ⟨0, rfl, (by rw [sdm, if_pos c_2]), ht⟩) (fun _ h => by cases h) d_Mo_isSide_18
  · refine lv_iload_n hx hb d_Mo_isSide_5 rfl (lv_at hl 1 rfl) ?_
    refine lv_aload_n hx hb d_Mo_isSide_6 rfl (lv_at hl 0 rfl) ?_
    refine va_get (D := (dC, dI)) (ci := 4) (v := .int (nI unk)) (C := R_Mo) (T := F_Mo) (N := 17) hx hb htb ul_Mo hown hK hP 0 rfl rfl 15 (by decide) (htb _ mw_563) (fun _ h9 => h9) rfl d_Mo_isSide_7 ?_
    refine lv_icmp_ge (tgt := 17) hx hb d_Mo_isSide_10 (by decide) (fun c_10 => ?_) (fun c_10 => ?_)
    · refine lv_iconst (v := 0) hx hb d_Mo_isSide_17 (by decide) ?_
      exact W.zret (v := 0) hx hb hr rfl (fun t ht hW => ⟨0, rfl, (by rw [sdm, if_neg c_2, if_pos c_10]), ht⟩) (fun _ h => by cases h) d_Mo_isSide_18
    · refine lv_iconst (v := 1) hx hb d_Mo_isSide_13 (by decide) ?_
      refine lv_goto (tgt := 18) hx hb d_Mo_isSide_14 (by decide) ?_
      exact W.zret (v := 1) hx hb hr rfl (fun t ht hW => ⟨1, rfl, (by rw [sdm, if_neg c_2, if_neg c_10]), ht⟩) (fun _ h => by cases h) d_Mo_isSide_18

set_option maxHeartbeats 4000000 in
set_option maxRecDepth 100000 in
theorem c_Mo_refuses (l : Launch) (dC : Nat → ClassId) (dI : Nat → Nat → Nat) (cI cL cZ : ClassId) (bd : Nat → Nat) (th : Int32) (K F S DD : Nat → Int32) (n : Nat) (NU VA BE WA LE AA RI UN CO : Nat → Int32) (unk cnt : Nat) (hn : n ≤ 120) (hunk : unk ≤ 10) (hcnt : cnt ≤ 30) (x : Int32) (sz : Nat) : Met l y_Mo_refuses (cw_Mo_refuses :: tb) (rmH 1 0 0) (va_Pc [.ref (bd 0), .int x] (wy_P (dC, dI) classes (wMo cI cZ bd th K F S DD n NU VA BE WA LE AA RI UN CO unk cnt) (tyI cI cL cZ) sz)) (wy_Q ry_i (fun r (u : Unit) => r = if x ≤ 0 then 0 else 1) (wy_B (dC, dI) classes (tyI cI cL cZ) (va_A (wMo cI cZ bd th K F S DD n NU VA BE WA LE AA RI UN CO unk cnt) sz) (fun u : Unit => (wMo cI cZ bd x K F S DD n NU VA BE WA LE AA RI UN CO unk cnt))) (va_A (wMo cI cZ bd th K F S DD n NU VA BE WA LE AA RI UN CO unk cnt) sz)) 0 0 (va_A (wMo cI cZ bd th K F S DD n NU VA BE WA LE AA RI UN CO unk cnt) sz) := by
  refine Met.ofW (cc := b_Mo_refuses) (maxL := 2) (ret := (some .boolean)) (by decide +kernel) rfl ?_
  intro p e s m args below meth c s₁ B hml0 hv
  have C0 := cx_of B hml0 rfl
  obtain ⟨hx, hb, hr, hml, hown, htb, hlocks⟩ := id C0
  obtain ⟨rfl, hsz, hP, hK, hD0⟩ := hv
  subst hsz
  have hD := hD0.self (sz := s.heap.size)
  generalize hAe : va_A (wMo cI cZ bd th K F S DD n NU VA BE WA LE AA RI UN CO unk cnt) s.heap.size = A at hD ⊢
  have hA : ∀ q : Nat, s.heap.size ≤ q → A q := fun q h => by rw [← hAe]; exact Or.inr h
  have hS : va_S A s.heap s.heap [] := va_S.rf
  have hl := lv_entry ([.ref (bd 0), .int x]) (n := 2) (Nat.le_of_ble_eq_true rfl)
  rw [lg_entry_eq]
  generalize (lg_sl ([.ref (bd 0), .int x]) ++ List.replicate (2 - (lg_sl ([.ref (bd 0), .int x])).length) Slot.unset).toArray = ls at hl ⊢
  have hl : lv_has ls 2 [(0, .ref (bd 0)), (1, .int x)] := hl
  have hP : va_P (dC, dI) classes [((bd 0), .inr (4, [.int th, .ref (bd 1), .ref (bd 2), .ref (bd 3), .ref (bd 4), .int (nI n), .ref (bd 5), .ref (bd 6), .ref (bd 7), .ref (bd 8), .ref (bd 9), .ref (bd 10), .ref (bd 11), .ref (bd 12), .ref (bd 13), .int (nI unk), .int (nI cnt)])), ((bd 1), .inl (cI, 120, .inl K)), ((bd 2), .inl (cI, 120, .inl F)), ((bd 3), .inl (cI, 120, .inl S)), ((bd 4), .inl (cI, 120, .inl DD)), ((bd 5), .inl (cI, 5, .inl NU)), ((bd 6), .inl (cI, 120, .inl VA)), ((bd 7), .inl (cI, 120, .inl BE)), ((bd 8), .inl (cI, 128, .inl WA)), ((bd 9), .inl (cI, 30, .inl LE)), ((bd 10), .inl (cI, 30, .inl AA)), ((bd 11), .inl (cI, 30, .inl RI)), ((bd 12), .inl (cI, 10, .inl UN)), ((bd 13), .inl (cZ, 30, .inl CO))] s.heap := hP
  have hD : va_D A [((bd 0), .inr (4, [.int th, .ref (bd 1), .ref (bd 2), .ref (bd 3), .ref (bd 4), .int (nI n), .ref (bd 5), .ref (bd 6), .ref (bd 7), .ref (bd 8), .ref (bd 9), .ref (bd 10), .ref (bd 11), .ref (bd 12), .ref (bd 13), .int (nI unk), .int (nI cnt)])), ((bd 1), .inl (cI, 120, .inl K)), ((bd 2), .inl (cI, 120, .inl F)), ((bd 3), .inl (cI, 120, .inl S)), ((bd 4), .inl (cI, 120, .inl DD)), ((bd 5), .inl (cI, 5, .inl NU)), ((bd 6), .inl (cI, 120, .inl VA)), ((bd 7), .inl (cI, 120, .inl BE)), ((bd 8), .inl (cI, 128, .inl WA)), ((bd 9), .inl (cI, 30, .inl LE)), ((bd 10), .inl (cI, 30, .inl AA)), ((bd 11), .inl (cI, 30, .inl RI)), ((bd 12), .inl (cI, 10, .inl UN)), ((bd 13), .inl (cZ, 30, .inl CO))] := hD
  have hA0 := hA
  refine lv_aload_n hx hb d_Mo_refuses_0 rfl (lv_at hl 0 rfl) ?_
  refine lv_iload_n hx hb d_Mo_refuses_1 rfl (lv_at hl 1 rfl) ?_
  refine va_put (D := (dC, dI)) (ci := 4) (v := .int x) (ty := .int) (C := R_Mo) (T := F_Mo) (N := 17) hx hb htb ul_Mo t_Mo t_Mo_ok n_Mo hown hK hP hD hS 0 rfl rfl 0 (by decide) (htb _ mw_548) (fun _ h9 => h9) rfl (by decide +kernel) rfl rfl (Nat.le_of_ble_eq_true rfl) d_Mo_refuses_2 (fun H locs hP hD hS => ?_)
  have hP : va_P (dC, dI) classes [((bd 0), .inr (4, [.int x, .ref (bd 1), .ref (bd 2), .ref (bd 3), .ref (bd 4), .int (nI n), .ref (bd 5), .ref (bd 6), .ref (bd 7), .ref (bd 8), .ref (bd 9), .ref (bd 10), .ref (bd 11), .ref (bd 12), .ref (bd 13), .int (nI unk), .int (nI cnt)])), ((bd 1), .inl (cI, 120, .inl K)), ((bd 2), .inl (cI, 120, .inl F)), ((bd 3), .inl (cI, 120, .inl S)), ((bd 4), .inl (cI, 120, .inl DD)), ((bd 5), .inl (cI, 5, .inl NU)), ((bd 6), .inl (cI, 120, .inl VA)), ((bd 7), .inl (cI, 120, .inl BE)), ((bd 8), .inl (cI, 128, .inl WA)), ((bd 9), .inl (cI, 30, .inl LE)), ((bd 10), .inl (cI, 30, .inl AA)), ((bd 11), .inl (cI, 30, .inl RI)), ((bd 12), .inl (cI, 10, .inl UN)), ((bd 13), .inl (cZ, 30, .inl CO))] H := hP
  have hD : va_D A [((bd 0), .inr (4, [.int x, .ref (bd 1), .ref (bd 2), .ref (bd 3), .ref (bd 4), .int (nI n), .ref (bd 5), .ref (bd 6), .ref (bd 7), .ref (bd 8), .ref (bd 9), .ref (bd 10), .ref (bd 11), .ref (bd 12), .ref (bd 13), .int (nI unk), .int (nI cnt)])), ((bd 1), .inl (cI, 120, .inl K)), ((bd 2), .inl (cI, 120, .inl F)), ((bd 3), .inl (cI, 120, .inl S)), ((bd 4), .inl (cI, 120, .inl DD)), ((bd 5), .inl (cI, 5, .inl NU)), ((bd 6), .inl (cI, 120, .inl VA)), ((bd 7), .inl (cI, 120, .inl BE)), ((bd 8), .inl (cI, 128, .inl WA)), ((bd 9), .inl (cI, 30, .inl LE)), ((bd 10), .inl (cI, 30, .inl AA)), ((bd 11), .inl (cI, 30, .inl RI)), ((bd 12), .inl (cI, 10, .inl UN)), ((bd 13), .inl (cZ, 30, .inl CO))] := hD
  refine lv_iload_n hx hb d_Mo_refuses_5 rfl (lv_at hl 1 rfl) ?_
  refine lv_if_le (tgt := 13) hx hb d_Mo_refuses_6 (by decide) (fun c_6 => ?_) (fun c_6 => ?_)
  · refine lv_iconst (v := 0) hx hb d_Mo_refuses_13 (by decide) ?_
    exact W.zret (v := 0) hx hb hr rfl (fun t ht hW => ⟨⟨0, (), rfl, (by rw [if_pos c_6]), by rw [ht]; exact hP, va_K.moved hW.alike hK, hD⟩, hS.F ht⟩) hS.2.2 d_Mo_refuses_14
  · refine lv_iconst (v := 1) hx hb d_Mo_refuses_9 (by decide) ?_
    refine lv_goto (tgt := 14) hx hb d_Mo_refuses_10 (by decide) ?_
    exact W.zret (v := 1) hx hb hr rfl (fun t ht hW => ⟨⟨1, (), rfl, (by rw [if_neg c_6]), by rw [ht]; exact hP, va_K.moved hW.alike hK, hD⟩, hS.F ht⟩) hS.2.2 d_Mo_refuses_14

set_option maxHeartbeats 4000000 in
set_option maxRecDepth 100000 in
theorem lp_Mo_make {p : Program} (l : Launch) {e : Env} {s : State} {m : MethodId} {args : Array Value} {below : List Frame} {meth : Method} {c : Code} {H : Heap} {locs : List Loc} {Q : State → Prop} (C0 : cx p s m args meth c b_Mo_make 5 (some .int) R_Mo) (dC : Nat → ClassId) (dI : Nat → Nat → Nat) (cI cL cZ : ClassId) (bd : Nat → Nat) (th : Int32) (K F S DD : Nat → Int32) (n : Nat) (NU VA BE WA LE AA RI UN CO : Nat → Int32) (unk cnt : Nat) (hn : n ≤ 120) (hunk : unk ≤ 10) (hcnt : cnt ≤ 30) (q : Nat × Nat × Nat) (hK : va_K (dC, dI) classes (tyI cI cL cZ) s) (hP : va_P (dC, dI) classes [((bd 0), .inr (4, [.int th, .ref (bd 1), .ref (bd 2), .ref (bd 3), .ref (bd 4), .int (nI n), .ref (bd 5), .ref (bd 6), .ref (bd 7), .ref (bd 8), .ref (bd 9), .ref (bd 10), .ref (bd 11), .ref (bd 12), .ref (bd 13), .int (nI unk), .int (nI cnt)])), ((bd 1), .inl (cI, 120, .inl K)), ((bd 2), .inl (cI, 120, .inl F)), ((bd 3), .inl (cI, 120, .inl S)), ((bd 4), .inl (cI, 120, .inl DD)), ((bd 5), .inl (cI, 5, .inl NU)), ((bd 6), .inl (cI, 120, .inl VA)), ((bd 7), .inl (cI, 120, .inl BE)), ((bd 8), .inl (cI, 128, .inl WA)), ((bd 9), .inl (cI, 30, .inl LE)), ((bd 10), .inl (cI, 30, .inl AA)), ((bd 11), .inl (cI, 30, .inl RI)), ((bd 12), .inl (cI, 10, .inl UN)), ((bd 13), .inl (cZ, 30, .inl CO))] H) (R : Int32)
    (KA : ∀ (i : Nat) (ls : Array Slot), i < n → R = nI i → lv_has ls 5 [(0, .ref (bd 0)), (1, .int (nI q.1)), (2, .int (fF q)), (3, .int (fS q)), (4, .int (nI i))] → W p l e (rmH 2 0 0) s m args below meth c H locs 0 0 Q (F0 m 45 ls [])) (KB : ∀ (i : Nat) (ls : Array Slot), R = -1 → lv_has ls 5 [(0, .ref (bd 0)), (1, .int (nI q.1)), (2, .int (fF q)), (3, .int (fS q)), (4, .int (nI i))] → W p l e (rmH 2 0 0) s m args below meth c H locs 0 0 Q (F0 m 54 ls [])) :
    ∀ (q9 i : Nat), i + q9 = n → R = ff (fun j => decide (K j = nI q.1) && decide (F j = fF q) && decide (S j = fS q)) i q9 → ∀ (ls : Array Slot), lv_has ls 5 [(0, .ref (bd 0)), (1, .int (nI q.1)), (2, .int (fF q)), (3, .int (fS q)), (4, .int (nI i))] → W p l e (rmH 2 0 0) s m args below meth c H locs 0 0 Q (F0 m 3 ls []) := by
  obtain ⟨hx, hb, hr, hml, hown, htb, hlocks⟩ := id C0
  intro q9
  induction q9 with
  | zero =>
    intro i hi hR ls hl
    refine lv_iload hx hb d_Mo_make_3 (lv_at hl 4 rfl) ?_
    refine lv_aload_n hx hb d_Mo_make_5 rfl (lv_at hl 0 rfl) ?_
    refine va_get (D := (dC, dI)) (ci := 4) (v := .int (nI n)) (C := R_Mo) (T := F_Mo) (N := 17) hx hb htb ul_Mo hown hK hP 0 rfl rfl 5 (by decide) (htb _ mw_553) (fun _ h9 => h9) rfl d_Mo_make_6 ?_
    refine lv_icmp_ge (tgt := 54) hx hb d_Mo_make_9 (by decide) (fun c_9 => ?_) (fun c_9 => ?_)
    · exact KB i ls hR (lv_sub hl [0, 1, 2, 3, 4] rfl)
    · exact absurd ((nI_leI (a := n) (b := i) (by omega) (by omega)).mpr (by omega)) c_9
  | succ q9 ih =>
    intro i hi hR ls hl
    refine lv_iload hx hb d_Mo_make_3 (lv_at hl 4 rfl) ?_
    refine lv_aload_n hx hb d_Mo_make_5 rfl (lv_at hl 0 rfl) ?_
    refine va_get (D := (dC, dI)) (ci := 4) (v := .int (nI n)) (C := R_Mo) (T := F_Mo) (N := 17) hx hb htb ul_Mo hown hK hP 0 rfl rfl 5 (by decide) (htb _ mw_553) (fun _ h9 => h9) rfl d_Mo_make_6 ?_
    refine lv_icmp_ge (tgt := 54) hx hb d_Mo_make_9 (by decide) (fun c_9 => ?_) (fun c_9 => ?_)
    · exact absurd ((nI_leI (a := n) (b := i) (by omega) (by omega)).mp c_9) (by omega)
    · refine lv_aload_n hx hb d_Mo_make_12 rfl (lv_at hl 0 rfl) ?_
      refine va_get (D := (dC, dI)) (ci := 4) (v := .ref (bd 1)) (C := R_Mo) (T := F_Mo) (N := 17) hx hb htb ul_Mo hown hK hP 0 rfl rfl 1 (by decide) (htb _ mw_549) (fun _ h9 => h9) rfl d_Mo_make_13 ?_
      refine lv_iload hx hb d_Mo_make_16 (lv_at hl 4 rfl) ?_
      refine ry_iald (D := (dC, dI)) (j := i) hx hb hK hP 1 0 rfl rfl (by omega) (by decide) d_Mo_make_18 ?_
      refine lv_iload_n hx hb d_Mo_make_19 rfl (lv_at hl 1 rfl) ?_
      refine lv_icmp_ne (tgt := 48) hx hb d_Mo_make_20 (by decide) (fun c_20 => ?_) (fun c_20 => ?_)
      · refine lv_iinc (v := (nI (i + 1))) (lv' := [(4, .int (nI (i + 1))), (0, .ref (bd 0)), (1, .int (nI q.1)), (2, .int (fF q)), (3, .int (fS q))]) hx hb d_Mo_make_48 hl (k := 4) rfl (nI_1 _) (by decide) rfl (fun ls hl => ?_)
        refine lv_goto (tgt := 3) hx hb d_Mo_make_51 (by decide) ?_
        exact ih (i + 1) (by omega) (by rw [hR, ff_f (by simp [c_20])]) ls (lv_sub hl [1, 2, 3, 4, 0] rfl)
      · refine lv_aload_n hx hb d_Mo_make_23 rfl (lv_at hl 0 rfl) ?_
        refine va_get (D := (dC, dI)) (ci := 4) (v := .ref (bd 2)) (C := R_Mo) (T := F_Mo) (N := 17) hx hb htb ul_Mo hown hK hP 0 rfl rfl 2 (by decide) (htb _ mw_550) (fun _ h9 => h9) rfl d_Mo_make_24 ?_
        refine lv_iload hx hb d_Mo_make_27 (lv_at hl 4 rfl) ?_
        refine ry_iald (D := (dC, dI)) (j := i) hx hb hK hP 2 0 rfl rfl (by omega) (by decide) d_Mo_make_29 ?_
        refine lv_iload_n hx hb d_Mo_make_30 rfl (lv_at hl 2 rfl) ?_
        refine lv_icmp_ne (tgt := 48) hx hb d_Mo_make_31 (by decide) (fun c_31 => ?_) (fun c_31 => ?_)
        · refine lv_iinc (v := (nI (i + 1))) (lv' := [(4, .int (nI (i + 1))), (0, .ref (bd 0)), (1, .int (nI q.1)), (2, .int (fF q)), (3, .int (fS q))]) hx hb d_Mo_make_48 hl (k := 4) rfl (nI_1 _) (by decide) rfl (fun ls hl => ?_)
          refine lv_goto (tgt := 3) hx hb d_Mo_make_51 (by decide) ?_
          exact ih (i + 1) (by omega) (by rw [hR, ff_f (by simp [c_31])]) ls (lv_sub hl [1, 2, 3, 4, 0] rfl)
        · refine lv_aload_n hx hb d_Mo_make_34 rfl (lv_at hl 0 rfl) ?_
          refine va_get (D := (dC, dI)) (ci := 4) (v := .ref (bd 3)) (C := R_Mo) (T := F_Mo) (N := 17) hx hb htb ul_Mo hown hK hP 0 rfl rfl 3 (by decide) (htb _ mw_551) (fun _ h9 => h9) rfl d_Mo_make_35 ?_
          refine lv_iload hx hb d_Mo_make_38 (lv_at hl 4 rfl) ?_
          refine ry_iald (D := (dC, dI)) (j := i) hx hb hK hP 3 0 rfl rfl (by omega) (by decide) d_Mo_make_40 ?_
          refine lv_iload_n hx hb d_Mo_make_41 rfl (lv_at hl 3 rfl) ?_
          refine lv_icmp_ne (tgt := 48) hx hb d_Mo_make_42 (by decide) (fun c_42 => ?_) (fun c_42 => ?_)
          · refine lv_iinc (v := (nI (i + 1))) (lv' := [(4, .int (nI (i + 1))), (0, .ref (bd 0)), (1, .int (nI q.1)), (2, .int (fF q)), (3, .int (fS q))]) hx hb d_Mo_make_48 hl (k := 4) rfl (nI_1 _) (by decide) rfl (fun ls hl => ?_)
            refine lv_goto (tgt := 3) hx hb d_Mo_make_51 (by decide) ?_
            exact ih (i + 1) (by omega) (by rw [hR, ff_f (by simp [c_42])]) ls (lv_sub hl [1, 2, 3, 4, 0] rfl)
          · exact KA i ls (by omega) (by rw [hR, ff_t (by simp only [c_20, c_31, c_42, decide_true, Bool.and_self])]) (lv_sub hl [0, 1, 2, 3, 4] rfl)

set_option maxHeartbeats 4000000 in
set_option maxRecDepth 100000 in
theorem c_Mo_make (l : Launch) (dC : Nat → ClassId) (dI : Nat → Nat → Nat) (cI cL cZ : ClassId) (bd : Nat → Nat) (th : Int32) (K F S DD : Nat → Int32) (n : Nat) (NU VA BE WA LE AA RI UN CO : Nat → Int32) (unk cnt : Nat) (hn : n ≤ 120) (hunk : unk ≤ 10) (hcnt : cnt ≤ 30) (nd : Nat → Nat × Nat × Nat) (hok : MoOk nd n K F S DD) (q : Nat × Nat × Nat) (hq : rowOk q n) (hdd : ¬ (q.1 = 2 ∧ 60 ≤ dp nd q.2.1)) (sz : Nat) : Met l y_Mo_make (cw_Mo_make :: tb) (rmH 2 0 0) (va_Pc [.ref (bd 0), .int (nI q.1), .int (fF q), .int (fS q)] (wy_P (dC, dI) classes (wMo cI cZ bd th K F S DD n NU VA BE WA LE AA RI UN CO unk cnt) (tyI cI cL cZ) sz)) (wy_Q ry_i (fun r (u : MoS) => ∃ nd', mkm nd n q r nd' u.2.2.2.2 ∧ MoU nd' u) (wy_B (dC, dI) classes (tyI cI cL cZ) (va_A (wMo cI cZ bd th K F S DD n NU VA BE WA LE AA RI UN CO unk cnt) sz) (fun u : MoS => (wMo cI cZ bd th u.1 u.2.1 u.2.2.1 u.2.2.2.1 u.2.2.2.2 NU VA BE WA LE AA RI UN CO unk cnt))) (va_A (wMo cI cZ bd th K F S DD n NU VA BE WA LE AA RI UN CO unk cnt) sz)) 0 0 (va_A (wMo cI cZ bd th K F S DD n NU VA BE WA LE AA RI UN CO unk cnt) sz) := by
  refine Met.ofW (cc := b_Mo_make) (maxL := 5) (ret := (some .int)) (by decide +kernel) rfl ?_
  intro p e s m args below meth c s₁ B hml0 hv
  have C0 := cx_of B hml0 rfl
  obtain ⟨hx, hb, hr, hml, hown, htb, hlocks⟩ := id C0
  obtain ⟨rfl, hsz, hP, hK, hD0⟩ := hv
  subst hsz
  have hD := hD0.self (sz := s.heap.size)
  generalize hAe : va_A (wMo cI cZ bd th K F S DD n NU VA BE WA LE AA RI UN CO unk cnt) s.heap.size = A at hD ⊢
  have hA : ∀ q : Nat, s.heap.size ≤ q → A q := fun q h => by rw [← hAe]; exact Or.inr h
  have hS : va_S A s.heap s.heap [] := va_S.rf
  have hl := lv_entry ([.ref (bd 0), .int (nI q.1), .int (fF q), .int (fS q)]) (n := 5) (Nat.le_of_ble_eq_true rfl)
  rw [lg_entry_eq]
  generalize (lg_sl ([.ref (bd 0), .int (nI q.1), .int (fF q), .int (fS q)]) ++ List.replicate (5 - (lg_sl ([.ref (bd 0), .int (nI q.1), .int (fF q), .int (fS q)])).length) Slot.unset).toArray = ls at hl ⊢
  have hl : lv_has ls 5 [(0, .ref (bd 0)), (1, .int (nI q.1)), (2, .int (fF q)), (3, .int (fS q))] := hl
  have hP : va_P (dC, dI) classes [((bd 0), .inr (4, [.int th, .ref (bd 1), .ref (bd 2), .ref (bd 3), .ref (bd 4), .int (nI n), .ref (bd 5), .ref (bd 6), .ref (bd 7), .ref (bd 8), .ref (bd 9), .ref (bd 10), .ref (bd 11), .ref (bd 12), .ref (bd 13), .int (nI unk), .int (nI cnt)])), ((bd 1), .inl (cI, 120, .inl K)), ((bd 2), .inl (cI, 120, .inl F)), ((bd 3), .inl (cI, 120, .inl S)), ((bd 4), .inl (cI, 120, .inl DD)), ((bd 5), .inl (cI, 5, .inl NU)), ((bd 6), .inl (cI, 120, .inl VA)), ((bd 7), .inl (cI, 120, .inl BE)), ((bd 8), .inl (cI, 128, .inl WA)), ((bd 9), .inl (cI, 30, .inl LE)), ((bd 10), .inl (cI, 30, .inl AA)), ((bd 11), .inl (cI, 30, .inl RI)), ((bd 12), .inl (cI, 10, .inl UN)), ((bd 13), .inl (cZ, 30, .inl CO))] s.heap := hP
  have hD : va_D A [((bd 0), .inr (4, [.int th, .ref (bd 1), .ref (bd 2), .ref (bd 3), .ref (bd 4), .int (nI n), .ref (bd 5), .ref (bd 6), .ref (bd 7), .ref (bd 8), .ref (bd 9), .ref (bd 10), .ref (bd 11), .ref (bd 12), .ref (bd 13), .int (nI unk), .int (nI cnt)])), ((bd 1), .inl (cI, 120, .inl K)), ((bd 2), .inl (cI, 120, .inl F)), ((bd 3), .inl (cI, 120, .inl S)), ((bd 4), .inl (cI, 120, .inl DD)), ((bd 5), .inl (cI, 5, .inl NU)), ((bd 6), .inl (cI, 120, .inl VA)), ((bd 7), .inl (cI, 120, .inl BE)), ((bd 8), .inl (cI, 128, .inl WA)), ((bd 9), .inl (cI, 30, .inl LE)), ((bd 10), .inl (cI, 30, .inl AA)), ((bd 11), .inl (cI, 30, .inl RI)), ((bd 12), .inl (cI, 10, .inl UN)), ((bd 13), .inl (cZ, 30, .inl CO))] := hD
  have hA0 := hA
  refine lv_iconst (v := 0) hx hb d_Mo_make_0 (by decide) ?_
  refine lv_istore (lv' := [(4, .int 0), (0, .ref (bd 0)), (1, .int (nI q.1)), (2, .int (fF q)), (3, .int (fS q))]) hx hb d_Mo_make_1 hl (by decide) rfl (fun ls hl => ?_)
  refine lp_Mo_make l C0 dC dI cI cL cZ bd th K F S DD n NU VA BE WA LE AA RI UN CO unk cnt hn hunk hcnt q hK hP (fnd K F S n q) (fun i ls hi hR hl => ?_) (fun i ls hR hl => ?_) n 0 (by omega) rfl ls (lv_sub hl [1, 2, 3, 4, 0] rfl)
  · obtain ⟨j, h1, h2, h3⟩ := (fnd_cases hok.1 hok.2.1 hq).resolve_left (fun z => nI_m1 (by omega) (hR.symm.trans z.1))
    have eij : i = j := (nI_eq (by omega) (by omega)).mp (hR.symm.trans h3)
    refine lv_iload hx hb d_Mo_make_45 (lv_at hl 4 rfl) ?_
    exact W.iret (v := (nI i)) hx hb hr (fun t ht hW => ⟨⟨(nI i), (K, F, S, DD, n), rfl, ⟨nd, Or.inl (Or.inl ⟨j, h1, h2, by rw [eij], rfl, rfl⟩), hok⟩, by rw [ht]; exact hP, va_K.moved hW.alike hK, hD⟩, hS.F ht⟩) hS.2.2 d_Mo_make_47
  · have hnew : ∀ j, j < n → nd j ≠ q := ((fnd_cases hok.1 hok.2.1 hq).resolve_right (fun ⟨j, h1, _, h3⟩ => nI_m1 (by omega) (h3.symm.trans hR))).2
    refine lv_aload_n hx hb d_Mo_make_54 rfl (lv_at hl 0 rfl) ?_
    refine va_get (D := (dC, dI)) (ci := 4) (v := .int (nI n)) (C := R_Mo) (T := F_Mo) (N := 17) hx hb htb ul_Mo hown hK hP 0 rfl rfl 5 (by decide) (htb _ mw_553) (fun _ h9 => h9) rfl d_Mo_make_55 ?_
    refine lv_bipush (v := 120) hx hb d_Mo_make_58 (by decide) ?_
    refine lv_icmp_ne (tgt := 65) hx hb d_Mo_make_60 (by decide) (fun c_60 => ?_) (fun c_60 => ?_)
    · have hn1 : n < 120 := by have h9 : ¬ n = 120 := (fun z => c_60 (by rw [z]; rfl)); omega
      have hq4 := hq.1
      refine lv_iload_n hx hb d_Mo_make_65 rfl (lv_at hl 1 rfl) ?_
      refine lv_iconst (v := 2) hx hb d_Mo_make_66 (by decide) ?_
      refine lv_icmp_ge (tgt := 74) hx hb d_Mo_make_67 (by decide) (fun c_67 => ?_) (fun c_67 => ?_)
      · refine lv_iload_n hx hb d_Mo_make_74 rfl (lv_at hl 1 rfl) ?_
        refine lv_iconst (v := 2) hx hb d_Mo_make_75 (by decide) ?_
        refine lv_icmp_ne (tgt := 90) hx hb d_Mo_make_76 (by decide) (fun c_76 => ?_) (fun c_76 => ?_)
        · have k3 : 3 ≤ q.1 := by have h8 : ¬ q.1 = 2 := (fun z => c_76 (by rw [z]; rfl)); have h9 := (nI_leI (a := 2) (by decide) (by omega)).mp c_67; omega
          have ha := hq.2.2.1 (by omega)
          have hb1 := hq.2.2.2.1 k3
          have hda := hok.1.2.2.1 _ ha
          have hdb := hok.1.2.2.1 _ hb1
          rw [fF_n (by omega), fS_n k3] at hl
          refine lv_aload_n hx hb d_Mo_make_90 rfl (lv_at hl 0 rfl) ?_
          refine va_get (D := (dC, dI)) (ci := 4) (v := .ref (bd 4)) (C := R_Mo) (T := F_Mo) (N := 17) hx hb htb ul_Mo hown hK hP 0 rfl rfl 4 (by decide) (htb _ mw_552) (fun _ h9 => h9) rfl d_Mo_make_91 ?_
          refine lv_iload_n hx hb d_Mo_make_94 rfl (lv_at hl 2 rfl) ?_
          refine ry_iald (D := (dC, dI)) (j := q.2.1) hx hb hK hP 4 0 rfl rfl (by omega) (by decide) d_Mo_make_95 ?_
          refine lv_aload_n hx hb d_Mo_make_96 rfl (lv_at hl 0 rfl) ?_
          refine va_get (D := (dC, dI)) (ci := 4) (v := .ref (bd 4)) (C := R_Mo) (T := F_Mo) (N := 17) hx hb htb ul_Mo hown hK hP 0 rfl rfl 4 (by decide) (htb _ mw_552) (fun _ h9 => h9) rfl d_Mo_make_97 ?_
          refine lv_iload_n hx hb d_Mo_make_100 rfl (lv_at hl 3 rfl) ?_
          refine ry_iald (D := (dC, dI)) (j := q.2.2) hx hb hK hP 4 0 rfl rfl (by omega) (by decide) d_Mo_make_101 ?_
          refine lv_icmp_le (tgt := 114) hx hb d_Mo_make_102 (by decide) (fun c_102 => ?_) (fun c_102 => ?_)
          · refine lv_aload_n hx hb d_Mo_make_114 rfl (lv_at hl 0 rfl) ?_
            refine va_get (D := (dC, dI)) (ci := 4) (v := .ref (bd 4)) (C := R_Mo) (T := F_Mo) (N := 17) hx hb htb ul_Mo hown hK hP 0 rfl rfl 4 (by decide) (htb _ mw_552) (fun _ h9 => h9) rfl d_Mo_make_115 ?_
            refine lv_iload_n hx hb d_Mo_make_118 rfl (lv_at hl 3 rfl) ?_
            refine ry_iald (D := (dC, dI)) (j := q.2.2) hx hb hK hP 4 0 rfl rfl (by omega) (by decide) d_Mo_make_119 ?_
            rw [show ((DD q.2.2) : Int32) = nI (dp (ext nd n q) n) from by rw [ext_dp hq, dA, if_neg (by omega), if_neg (by omega), if_pos (by omega), if_pos k3, hok.2.2 _ hb1]; rw [Nat.max_eq_right ((nI_leI (by omega) (by omega)).mp (by rw [← hok.2.2 _ ha, ← hok.2.2 _ hb1]; exact c_102))]]
            refine lv_istore (lv' := [(4, .int (nI (dp (ext nd n q) n))), (0, .ref (bd 0)), (1, .int (nI q.1)), (2, .int (nI q.2.1)), (3, .int (nI q.2.2))]) hx hb d_Mo_make_120 hl (by decide) rfl (fun ls hl => ?_)
            rw [← fF_n (q := q) (by omega)] at hl
            rw [← fS_n (q := q) k3] at hl
            refine lv_aload_n hx hb d_Mo_make_122 rfl (lv_at hl 1 rfl) ?_
            refine va_get (D := (dC, dI)) (ci := 4) (v := .ref (bd 1)) (C := R_Mo) (T := F_Mo) (N := 17) hx hb htb ul_Mo hown hK hP 0 rfl rfl 1 (by decide) (htb _ mw_549) (fun _ h9 => h9) rfl d_Mo_make_123 ?_
            refine lv_aload_n hx hb d_Mo_make_126 rfl (lv_at hl 1 rfl) ?_
            refine va_get (D := (dC, dI)) (ci := 4) (v := .int (nI n)) (C := R_Mo) (T := F_Mo) (N := 17) hx hb htb ul_Mo hown hK hP 0 rfl rfl 5 (by decide) (htb _ mw_553) (fun _ h9 => h9) rfl d_Mo_make_127 ?_
            refine lv_iload_n hx hb d_Mo_make_130 rfl (lv_at hl 2 rfl) ?_
            refine ry_iast (D := (dC, dI)) (j := n) hx hb hK hP hD hS 1 0 rfl rfl (by omega) (by decide) d_Mo_make_131 (fun H locs hP hD hS => ?_)
            have hP : va_P (dC, dI) classes [((bd 0), .inr (4, [.int th, .ref (bd 1), .ref (bd 2), .ref (bd 3), .ref (bd 4), .int (nI n), .ref (bd 5), .ref (bd 6), .ref (bd 7), .ref (bd 8), .ref (bd 9), .ref (bd 10), .ref (bd 11), .ref (bd 12), .ref (bd 13), .int (nI unk), .int (nI cnt)])), ((bd 1), .inl (cI, 120, .inl (upd K n (nI q.1)))), ((bd 2), .inl (cI, 120, .inl F)), ((bd 3), .inl (cI, 120, .inl S)), ((bd 4), .inl (cI, 120, .inl DD)), ((bd 5), .inl (cI, 5, .inl NU)), ((bd 6), .inl (cI, 120, .inl VA)), ((bd 7), .inl (cI, 120, .inl BE)), ((bd 8), .inl (cI, 128, .inl WA)), ((bd 9), .inl (cI, 30, .inl LE)), ((bd 10), .inl (cI, 30, .inl AA)), ((bd 11), .inl (cI, 30, .inl RI)), ((bd 12), .inl (cI, 10, .inl UN)), ((bd 13), .inl (cZ, 30, .inl CO))] H := hP
            have hD : va_D A [((bd 0), .inr (4, [.int th, .ref (bd 1), .ref (bd 2), .ref (bd 3), .ref (bd 4), .int (nI n), .ref (bd 5), .ref (bd 6), .ref (bd 7), .ref (bd 8), .ref (bd 9), .ref (bd 10), .ref (bd 11), .ref (bd 12), .ref (bd 13), .int (nI unk), .int (nI cnt)])), ((bd 1), .inl (cI, 120, .inl (upd K n (nI q.1)))), ((bd 2), .inl (cI, 120, .inl F)), ((bd 3), .inl (cI, 120, .inl S)), ((bd 4), .inl (cI, 120, .inl DD)), ((bd 5), .inl (cI, 5, .inl NU)), ((bd 6), .inl (cI, 120, .inl VA)), ((bd 7), .inl (cI, 120, .inl BE)), ((bd 8), .inl (cI, 128, .inl WA)), ((bd 9), .inl (cI, 30, .inl LE)), ((bd 10), .inl (cI, 30, .inl AA)), ((bd 11), .inl (cI, 30, .inl RI)), ((bd 12), .inl (cI, 10, .inl UN)), ((bd 13), .inl (cZ, 30, .inl CO))] := hD
            refine lv_aload_n hx hb d_Mo_make_132 rfl (lv_at hl 1 rfl) ?_
            refine va_get (D := (dC, dI)) (ci := 4) (v := .ref (bd 2)) (C := R_Mo) (T := F_Mo) (N := 17) hx hb htb ul_Mo hown hK hP 0 rfl rfl 2 (by decide) (htb _ mw_550) (fun _ h9 => h9) rfl d_Mo_make_133 ?_
            refine lv_aload_n hx hb d_Mo_make_136 rfl (lv_at hl 1 rfl) ?_
            refine va_get (D := (dC, dI)) (ci := 4) (v := .int (nI n)) (C := R_Mo) (T := F_Mo) (N := 17) hx hb htb ul_Mo hown hK hP 0 rfl rfl 5 (by decide) (htb _ mw_553) (fun _ h9 => h9) rfl d_Mo_make_137 ?_
            refine lv_iload_n hx hb d_Mo_make_140 rfl (lv_at hl 3 rfl) ?_
            refine ry_iast (D := (dC, dI)) (j := n) hx hb hK hP hD hS 2 0 rfl rfl (by omega) (by decide) d_Mo_make_141 (fun H locs hP hD hS => ?_)
            have hP : va_P (dC, dI) classes [((bd 0), .inr (4, [.int th, .ref (bd 1), .ref (bd 2), .ref (bd 3), .ref (bd 4), .int (nI n), .ref (bd 5), .ref (bd 6), .ref (bd 7), .ref (bd 8), .ref (bd 9), .ref (bd 10), .ref (bd 11), .ref (bd 12), .ref (bd 13), .int (nI unk), .int (nI cnt)])), ((bd 1), .inl (cI, 120, .inl (upd K n (nI q.1)))), ((bd 2), .inl (cI, 120, .inl (upd F n (fF q)))), ((bd 3), .inl (cI, 120, .inl S)), ((bd 4), .inl (cI, 120, .inl DD)), ((bd 5), .inl (cI, 5, .inl NU)), ((bd 6), .inl (cI, 120, .inl VA)), ((bd 7), .inl (cI, 120, .inl BE)), ((bd 8), .inl (cI, 128, .inl WA)), ((bd 9), .inl (cI, 30, .inl LE)), ((bd 10), .inl (cI, 30, .inl AA)), ((bd 11), .inl (cI, 30, .inl RI)), ((bd 12), .inl (cI, 10, .inl UN)), ((bd 13), .inl (cZ, 30, .inl CO))] H := hP
            have hD : va_D A [((bd 0), .inr (4, [.int th, .ref (bd 1), .ref (bd 2), .ref (bd 3), .ref (bd 4), .int (nI n), .ref (bd 5), .ref (bd 6), .ref (bd 7), .ref (bd 8), .ref (bd 9), .ref (bd 10), .ref (bd 11), .ref (bd 12), .ref (bd 13), .int (nI unk), .int (nI cnt)])), ((bd 1), .inl (cI, 120, .inl (upd K n (nI q.1)))), ((bd 2), .inl (cI, 120, .inl (upd F n (fF q)))), ((bd 3), .inl (cI, 120, .inl S)), ((bd 4), .inl (cI, 120, .inl DD)), ((bd 5), .inl (cI, 5, .inl NU)), ((bd 6), .inl (cI, 120, .inl VA)), ((bd 7), .inl (cI, 120, .inl BE)), ((bd 8), .inl (cI, 128, .inl WA)), ((bd 9), .inl (cI, 30, .inl LE)), ((bd 10), .inl (cI, 30, .inl AA)), ((bd 11), .inl (cI, 30, .inl RI)), ((bd 12), .inl (cI, 10, .inl UN)), ((bd 13), .inl (cZ, 30, .inl CO))] := hD
            refine lv_aload_n hx hb d_Mo_make_142 rfl (lv_at hl 1 rfl) ?_
            refine va_get (D := (dC, dI)) (ci := 4) (v := .ref (bd 3)) (C := R_Mo) (T := F_Mo) (N := 17) hx hb htb ul_Mo hown hK hP 0 rfl rfl 3 (by decide) (htb _ mw_551) (fun _ h9 => h9) rfl d_Mo_make_143 ?_
            refine lv_aload_n hx hb d_Mo_make_146 rfl (lv_at hl 1 rfl) ?_
            refine va_get (D := (dC, dI)) (ci := 4) (v := .int (nI n)) (C := R_Mo) (T := F_Mo) (N := 17) hx hb htb ul_Mo hown hK hP 0 rfl rfl 5 (by decide) (htb _ mw_553) (fun _ h9 => h9) rfl d_Mo_make_147 ?_
            refine lv_iload_n hx hb d_Mo_make_150 rfl (lv_at hl 4 rfl) ?_
            refine ry_iast (D := (dC, dI)) (j := n) hx hb hK hP hD hS 3 0 rfl rfl (by omega) (by decide) d_Mo_make_151 (fun H locs hP hD hS => ?_)
            have hP : va_P (dC, dI) classes [((bd 0), .inr (4, [.int th, .ref (bd 1), .ref (bd 2), .ref (bd 3), .ref (bd 4), .int (nI n), .ref (bd 5), .ref (bd 6), .ref (bd 7), .ref (bd 8), .ref (bd 9), .ref (bd 10), .ref (bd 11), .ref (bd 12), .ref (bd 13), .int (nI unk), .int (nI cnt)])), ((bd 1), .inl (cI, 120, .inl (upd K n (nI q.1)))), ((bd 2), .inl (cI, 120, .inl (upd F n (fF q)))), ((bd 3), .inl (cI, 120, .inl (upd S n (fS q)))), ((bd 4), .inl (cI, 120, .inl DD)), ((bd 5), .inl (cI, 5, .inl NU)), ((bd 6), .inl (cI, 120, .inl VA)), ((bd 7), .inl (cI, 120, .inl BE)), ((bd 8), .inl (cI, 128, .inl WA)), ((bd 9), .inl (cI, 30, .inl LE)), ((bd 10), .inl (cI, 30, .inl AA)), ((bd 11), .inl (cI, 30, .inl RI)), ((bd 12), .inl (cI, 10, .inl UN)), ((bd 13), .inl (cZ, 30, .inl CO))] H := hP
            have hD : va_D A [((bd 0), .inr (4, [.int th, .ref (bd 1), .ref (bd 2), .ref (bd 3), .ref (bd 4), .int (nI n), .ref (bd 5), .ref (bd 6), .ref (bd 7), .ref (bd 8), .ref (bd 9), .ref (bd 10), .ref (bd 11), .ref (bd 12), .ref (bd 13), .int (nI unk), .int (nI cnt)])), ((bd 1), .inl (cI, 120, .inl (upd K n (nI q.1)))), ((bd 2), .inl (cI, 120, .inl (upd F n (fF q)))), ((bd 3), .inl (cI, 120, .inl (upd S n (fS q)))), ((bd 4), .inl (cI, 120, .inl DD)), ((bd 5), .inl (cI, 5, .inl NU)), ((bd 6), .inl (cI, 120, .inl VA)), ((bd 7), .inl (cI, 120, .inl BE)), ((bd 8), .inl (cI, 128, .inl WA)), ((bd 9), .inl (cI, 30, .inl LE)), ((bd 10), .inl (cI, 30, .inl AA)), ((bd 11), .inl (cI, 30, .inl RI)), ((bd 12), .inl (cI, 10, .inl UN)), ((bd 13), .inl (cZ, 30, .inl CO))] := hD
            refine lv_aload_n hx hb d_Mo_make_152 rfl (lv_at hl 1 rfl) ?_
            refine va_get (D := (dC, dI)) (ci := 4) (v := .ref (bd 4)) (C := R_Mo) (T := F_Mo) (N := 17) hx hb htb ul_Mo hown hK hP 0 rfl rfl 4 (by decide) (htb _ mw_552) (fun _ h9 => h9) rfl d_Mo_make_153 ?_
            refine lv_aload_n hx hb d_Mo_make_156 rfl (lv_at hl 1 rfl) ?_
            refine va_get (D := (dC, dI)) (ci := 4) (v := .int (nI n)) (C := R_Mo) (T := F_Mo) (N := 17) hx hb htb ul_Mo hown hK hP 0 rfl rfl 5 (by decide) (htb _ mw_553) (fun _ h9 => h9) rfl d_Mo_make_157 ?_
            refine lv_iload hx hb d_Mo_make_160 (lv_at hl 0 rfl) ?_
            refine ry_iast (D := (dC, dI)) (j := n) hx hb hK hP hD hS 4 0 rfl rfl (by omega) (by decide) d_Mo_make_162 (fun H locs hP hD hS => ?_)
            have hP : va_P (dC, dI) classes [((bd 0), .inr (4, [.int th, .ref (bd 1), .ref (bd 2), .ref (bd 3), .ref (bd 4), .int (nI n), .ref (bd 5), .ref (bd 6), .ref (bd 7), .ref (bd 8), .ref (bd 9), .ref (bd 10), .ref (bd 11), .ref (bd 12), .ref (bd 13), .int (nI unk), .int (nI cnt)])), ((bd 1), .inl (cI, 120, .inl (upd K n (nI q.1)))), ((bd 2), .inl (cI, 120, .inl (upd F n (fF q)))), ((bd 3), .inl (cI, 120, .inl (upd S n (fS q)))), ((bd 4), .inl (cI, 120, .inl (upd DD n ((nI (dp (ext nd n q) n)))))), ((bd 5), .inl (cI, 5, .inl NU)), ((bd 6), .inl (cI, 120, .inl VA)), ((bd 7), .inl (cI, 120, .inl BE)), ((bd 8), .inl (cI, 128, .inl WA)), ((bd 9), .inl (cI, 30, .inl LE)), ((bd 10), .inl (cI, 30, .inl AA)), ((bd 11), .inl (cI, 30, .inl RI)), ((bd 12), .inl (cI, 10, .inl UN)), ((bd 13), .inl (cZ, 30, .inl CO))] H := hP
            have hD : va_D A [((bd 0), .inr (4, [.int th, .ref (bd 1), .ref (bd 2), .ref (bd 3), .ref (bd 4), .int (nI n), .ref (bd 5), .ref (bd 6), .ref (bd 7), .ref (bd 8), .ref (bd 9), .ref (bd 10), .ref (bd 11), .ref (bd 12), .ref (bd 13), .int (nI unk), .int (nI cnt)])), ((bd 1), .inl (cI, 120, .inl (upd K n (nI q.1)))), ((bd 2), .inl (cI, 120, .inl (upd F n (fF q)))), ((bd 3), .inl (cI, 120, .inl (upd S n (fS q)))), ((bd 4), .inl (cI, 120, .inl (upd DD n ((nI (dp (ext nd n q) n)))))), ((bd 5), .inl (cI, 5, .inl NU)), ((bd 6), .inl (cI, 120, .inl VA)), ((bd 7), .inl (cI, 120, .inl BE)), ((bd 8), .inl (cI, 128, .inl WA)), ((bd 9), .inl (cI, 30, .inl LE)), ((bd 10), .inl (cI, 30, .inl AA)), ((bd 11), .inl (cI, 30, .inl RI)), ((bd 12), .inl (cI, 10, .inl UN)), ((bd 13), .inl (cZ, 30, .inl CO))] := hD
            refine lv_aload_n hx hb d_Mo_make_163 rfl (lv_at hl 1 rfl) ?_
            refine lv_dup hx hb d_Mo_make_164 rfl ?_
            refine va_get (D := (dC, dI)) (ci := 4) (v := .int (nI n)) (C := R_Mo) (T := F_Mo) (N := 17) hx hb htb ul_Mo hown hK hP 0 rfl rfl 5 (by decide) (htb _ mw_553) (fun _ h9 => h9) rfl d_Mo_make_165 ?_
            refine lv_iconst (v := 1) hx hb d_Mo_make_168 (by decide) ?_
            refine lv_iadd hx hb d_Mo_make_169 ?_
            rw [nI_1]
            refine va_put (D := (dC, dI)) (ci := 4) (v := .int (nI (n + 1))) (ty := .int) (C := R_Mo) (T := F_Mo) (N := 17) hx hb htb ul_Mo t_Mo t_Mo_ok n_Mo hown hK hP hD hS 0 rfl rfl 5 (by decide) (htb _ mw_553) (fun _ h9 => h9) rfl (by decide +kernel) rfl rfl (Nat.le_of_ble_eq_true rfl) d_Mo_make_170 (fun H locs hP hD hS => ?_)
            have hP : va_P (dC, dI) classes [((bd 0), .inr (4, [.int th, .ref (bd 1), .ref (bd 2), .ref (bd 3), .ref (bd 4), .int (nI (n + 1)), .ref (bd 5), .ref (bd 6), .ref (bd 7), .ref (bd 8), .ref (bd 9), .ref (bd 10), .ref (bd 11), .ref (bd 12), .ref (bd 13), .int (nI unk), .int (nI cnt)])), ((bd 1), .inl (cI, 120, .inl (upd K n (nI q.1)))), ((bd 2), .inl (cI, 120, .inl (upd F n (fF q)))), ((bd 3), .inl (cI, 120, .inl (upd S n (fS q)))), ((bd 4), .inl (cI, 120, .inl (upd DD n ((nI (dp (ext nd n q) n)))))), ((bd 5), .inl (cI, 5, .inl NU)), ((bd 6), .inl (cI, 120, .inl VA)), ((bd 7), .inl (cI, 120, .inl BE)), ((bd 8), .inl (cI, 128, .inl WA)), ((bd 9), .inl (cI, 30, .inl LE)), ((bd 10), .inl (cI, 30, .inl AA)), ((bd 11), .inl (cI, 30, .inl RI)), ((bd 12), .inl (cI, 10, .inl UN)), ((bd 13), .inl (cZ, 30, .inl CO))] H := hP
            have hD : va_D A [((bd 0), .inr (4, [.int th, .ref (bd 1), .ref (bd 2), .ref (bd 3), .ref (bd 4), .int (nI (n + 1)), .ref (bd 5), .ref (bd 6), .ref (bd 7), .ref (bd 8), .ref (bd 9), .ref (bd 10), .ref (bd 11), .ref (bd 12), .ref (bd 13), .int (nI unk), .int (nI cnt)])), ((bd 1), .inl (cI, 120, .inl (upd K n (nI q.1)))), ((bd 2), .inl (cI, 120, .inl (upd F n (fF q)))), ((bd 3), .inl (cI, 120, .inl (upd S n (fS q)))), ((bd 4), .inl (cI, 120, .inl (upd DD n ((nI (dp (ext nd n q) n)))))), ((bd 5), .inl (cI, 5, .inl NU)), ((bd 6), .inl (cI, 120, .inl VA)), ((bd 7), .inl (cI, 120, .inl BE)), ((bd 8), .inl (cI, 128, .inl WA)), ((bd 9), .inl (cI, 30, .inl LE)), ((bd 10), .inl (cI, 30, .inl AA)), ((bd 11), .inl (cI, 30, .inl RI)), ((bd 12), .inl (cI, 10, .inl UN)), ((bd 13), .inl (cZ, 30, .inl CO))] := hD
            refine lv_aload_n hx hb d_Mo_make_173 rfl (lv_at hl 1 rfl) ?_
            refine va_get (D := (dC, dI)) (ci := 4) (v := .int (nI (n + 1))) (C := R_Mo) (T := F_Mo) (N := 17) hx hb htb ul_Mo hown hK hP 0 rfl rfl 5 (by decide) (htb _ mw_553) (fun _ h9 => h9) rfl d_Mo_make_174 ?_
            refine lv_iconst (v := 1) hx hb d_Mo_make_177 (by decide) ?_
            refine lv_isub hx hb d_Mo_make_178 ?_
            rw [nI_pred]
            exact W.iret (v := (nI n)) hx hb hr (fun t ht hW => ⟨⟨(nI n), ((upd K n (nI q.1)), (upd F n (fF q)), (upd S n (fS q)), (upd DD n (nI (dp (ext nd n q) n))), n + 1), rfl, ⟨ext nd n q, Or.inl (Or.inr ⟨hnew, hn1, hdd, rfl, rfl, rfl⟩), ext_mo hok hq hn1 hnew hdd⟩, by rw [ht]; exact hP, va_K.moved hW.alike hK, hD⟩, hS.F ht⟩) hS.2.2 d_Mo_make_179
          · refine lv_aload_n hx hb d_Mo_make_105 rfl (lv_at hl 0 rfl) ?_
            refine va_get (D := (dC, dI)) (ci := 4) (v := .ref (bd 4)) (C := R_Mo) (T := F_Mo) (N := 17) hx hb htb ul_Mo hown hK hP 0 rfl rfl 4 (by decide) (htb _ mw_552) (fun _ h9 => h9) rfl d_Mo_make_106 ?_
            refine lv_iload_n hx hb d_Mo_make_109 rfl (lv_at hl 2 rfl) ?_
            refine ry_iald (D := (dC, dI)) (j := q.2.1) hx hb hK hP 4 0 rfl rfl (by omega) (by decide) d_Mo_make_110 ?_
            refine lv_goto (tgt := 120) hx hb d_Mo_make_111 (by decide) ?_
            rw [show ((DD q.2.1) : Int32) = nI (dp (ext nd n q) n) from by rw [ext_dp hq, dA, if_neg (by omega), if_neg (by omega), if_pos (by omega), if_pos k3, hok.2.2 _ ha]; rw [Nat.max_eq_left (Nat.le_of_not_le fun z => c_102 (by rw [hok.2.2 _ ha, hok.2.2 _ hb1]; exact (nI_leI (by omega) (by omega)).mpr z))]]
            refine lv_istore (lv' := [(4, .int (nI (dp (ext nd n q) n))), (0, .ref (bd 0)), (1, .int (nI q.1)), (2, .int (nI q.2.1)), (3, .int (nI q.2.2))]) hx hb d_Mo_make_120 hl (by decide) rfl (fun ls hl => ?_)
            rw [← fF_n (q := q) (by omega)] at hl
            rw [← fS_n (q := q) k3] at hl
            refine lv_aload_n hx hb d_Mo_make_122 rfl (lv_at hl 1 rfl) ?_
            refine va_get (D := (dC, dI)) (ci := 4) (v := .ref (bd 1)) (C := R_Mo) (T := F_Mo) (N := 17) hx hb htb ul_Mo hown hK hP 0 rfl rfl 1 (by decide) (htb _ mw_549) (fun _ h9 => h9) rfl d_Mo_make_123 ?_
            refine lv_aload_n hx hb d_Mo_make_126 rfl (lv_at hl 1 rfl) ?_
            refine va_get (D := (dC, dI)) (ci := 4) (v := .int (nI n)) (C := R_Mo) (T := F_Mo) (N := 17) hx hb htb ul_Mo hown hK hP 0 rfl rfl 5 (by decide) (htb _ mw_553) (fun _ h9 => h9) rfl d_Mo_make_127 ?_
            refine lv_iload_n hx hb d_Mo_make_130 rfl (lv_at hl 2 rfl) ?_
            refine ry_iast (D := (dC, dI)) (j := n) hx hb hK hP hD hS 1 0 rfl rfl (by omega) (by decide) d_Mo_make_131 (fun H locs hP hD hS => ?_)
            have hP : va_P (dC, dI) classes [((bd 0), .inr (4, [.int th, .ref (bd 1), .ref (bd 2), .ref (bd 3), .ref (bd 4), .int (nI n), .ref (bd 5), .ref (bd 6), .ref (bd 7), .ref (bd 8), .ref (bd 9), .ref (bd 10), .ref (bd 11), .ref (bd 12), .ref (bd 13), .int (nI unk), .int (nI cnt)])), ((bd 1), .inl (cI, 120, .inl (upd K n (nI q.1)))), ((bd 2), .inl (cI, 120, .inl F)), ((bd 3), .inl (cI, 120, .inl S)), ((bd 4), .inl (cI, 120, .inl DD)), ((bd 5), .inl (cI, 5, .inl NU)), ((bd 6), .inl (cI, 120, .inl VA)), ((bd 7), .inl (cI, 120, .inl BE)), ((bd 8), .inl (cI, 128, .inl WA)), ((bd 9), .inl (cI, 30, .inl LE)), ((bd 10), .inl (cI, 30, .inl AA)), ((bd 11), .inl (cI, 30, .inl RI)), ((bd 12), .inl (cI, 10, .inl UN)), ((bd 13), .inl (cZ, 30, .inl CO))] H := hP
            have hD : va_D A [((bd 0), .inr (4, [.int th, .ref (bd 1), .ref (bd 2), .ref (bd 3), .ref (bd 4), .int (nI n), .ref (bd 5), .ref (bd 6), .ref (bd 7), .ref (bd 8), .ref (bd 9), .ref (bd 10), .ref (bd 11), .ref (bd 12), .ref (bd 13), .int (nI unk), .int (nI cnt)])), ((bd 1), .inl (cI, 120, .inl (upd K n (nI q.1)))), ((bd 2), .inl (cI, 120, .inl F)), ((bd 3), .inl (cI, 120, .inl S)), ((bd 4), .inl (cI, 120, .inl DD)), ((bd 5), .inl (cI, 5, .inl NU)), ((bd 6), .inl (cI, 120, .inl VA)), ((bd 7), .inl (cI, 120, .inl BE)), ((bd 8), .inl (cI, 128, .inl WA)), ((bd 9), .inl (cI, 30, .inl LE)), ((bd 10), .inl (cI, 30, .inl AA)), ((bd 11), .inl (cI, 30, .inl RI)), ((bd 12), .inl (cI, 10, .inl UN)), ((bd 13), .inl (cZ, 30, .inl CO))] := hD
            refine lv_aload_n hx hb d_Mo_make_132 rfl (lv_at hl 1 rfl) ?_
            refine va_get (D := (dC, dI)) (ci := 4) (v := .ref (bd 2)) (C := R_Mo) (T := F_Mo) (N := 17) hx hb htb ul_Mo hown hK hP 0 rfl rfl 2 (by decide) (htb _ mw_550) (fun _ h9 => h9) rfl d_Mo_make_133 ?_
            refine lv_aload_n hx hb d_Mo_make_136 rfl (lv_at hl 1 rfl) ?_
            refine va_get (D := (dC, dI)) (ci := 4) (v := .int (nI n)) (C := R_Mo) (T := F_Mo) (N := 17) hx hb htb ul_Mo hown hK hP 0 rfl rfl 5 (by decide) (htb _ mw_553) (fun _ h9 => h9) rfl d_Mo_make_137 ?_
            refine lv_iload_n hx hb d_Mo_make_140 rfl (lv_at hl 3 rfl) ?_
            refine ry_iast (D := (dC, dI)) (j := n) hx hb hK hP hD hS 2 0 rfl rfl (by omega) (by decide) d_Mo_make_141 (fun H locs hP hD hS => ?_)
            have hP : va_P (dC, dI) classes [((bd 0), .inr (4, [.int th, .ref (bd 1), .ref (bd 2), .ref (bd 3), .ref (bd 4), .int (nI n), .ref (bd 5), .ref (bd 6), .ref (bd 7), .ref (bd 8), .ref (bd 9), .ref (bd 10), .ref (bd 11), .ref (bd 12), .ref (bd 13), .int (nI unk), .int (nI cnt)])), ((bd 1), .inl (cI, 120, .inl (upd K n (nI q.1)))), ((bd 2), .inl (cI, 120, .inl (upd F n (fF q)))), ((bd 3), .inl (cI, 120, .inl S)), ((bd 4), .inl (cI, 120, .inl DD)), ((bd 5), .inl (cI, 5, .inl NU)), ((bd 6), .inl (cI, 120, .inl VA)), ((bd 7), .inl (cI, 120, .inl BE)), ((bd 8), .inl (cI, 128, .inl WA)), ((bd 9), .inl (cI, 30, .inl LE)), ((bd 10), .inl (cI, 30, .inl AA)), ((bd 11), .inl (cI, 30, .inl RI)), ((bd 12), .inl (cI, 10, .inl UN)), ((bd 13), .inl (cZ, 30, .inl CO))] H := hP
            have hD : va_D A [((bd 0), .inr (4, [.int th, .ref (bd 1), .ref (bd 2), .ref (bd 3), .ref (bd 4), .int (nI n), .ref (bd 5), .ref (bd 6), .ref (bd 7), .ref (bd 8), .ref (bd 9), .ref (bd 10), .ref (bd 11), .ref (bd 12), .ref (bd 13), .int (nI unk), .int (nI cnt)])), ((bd 1), .inl (cI, 120, .inl (upd K n (nI q.1)))), ((bd 2), .inl (cI, 120, .inl (upd F n (fF q)))), ((bd 3), .inl (cI, 120, .inl S)), ((bd 4), .inl (cI, 120, .inl DD)), ((bd 5), .inl (cI, 5, .inl NU)), ((bd 6), .inl (cI, 120, .inl VA)), ((bd 7), .inl (cI, 120, .inl BE)), ((bd 8), .inl (cI, 128, .inl WA)), ((bd 9), .inl (cI, 30, .inl LE)), ((bd 10), .inl (cI, 30, .inl AA)), ((bd 11), .inl (cI, 30, .inl RI)), ((bd 12), .inl (cI, 10, .inl UN)), ((bd 13), .inl (cZ, 30, .inl CO))] := hD
            refine lv_aload_n hx hb d_Mo_make_142 rfl (lv_at hl 1 rfl) ?_
            refine va_get (D := (dC, dI)) (ci := 4) (v := .ref (bd 3)) (C := R_Mo) (T := F_Mo) (N := 17) hx hb htb ul_Mo hown hK hP 0 rfl rfl 3 (by decide) (htb _ mw_551) (fun _ h9 => h9) rfl d_Mo_make_143 ?_
            refine lv_aload_n hx hb d_Mo_make_146 rfl (lv_at hl 1 rfl) ?_
            refine va_get (D := (dC, dI)) (ci := 4) (v := .int (nI n)) (C := R_Mo) (T := F_Mo) (N := 17) hx hb htb ul_Mo hown hK hP 0 rfl rfl 5 (by decide) (htb _ mw_553) (fun _ h9 => h9) rfl d_Mo_make_147 ?_
            refine lv_iload_n hx hb d_Mo_make_150 rfl (lv_at hl 4 rfl) ?_
            refine ry_iast (D := (dC, dI)) (j := n) hx hb hK hP hD hS 3 0 rfl rfl (by omega) (by decide) d_Mo_make_151 (fun H locs hP hD hS => ?_)
            have hP : va_P (dC, dI) classes [((bd 0), .inr (4, [.int th, .ref (bd 1), .ref (bd 2), .ref (bd 3), .ref (bd 4), .int (nI n), .ref (bd 5), .ref (bd 6), .ref (bd 7), .ref (bd 8), .ref (bd 9), .ref (bd 10), .ref (bd 11), .ref (bd 12), .ref (bd 13), .int (nI unk), .int (nI cnt)])), ((bd 1), .inl (cI, 120, .inl (upd K n (nI q.1)))), ((bd 2), .inl (cI, 120, .inl (upd F n (fF q)))), ((bd 3), .inl (cI, 120, .inl (upd S n (fS q)))), ((bd 4), .inl (cI, 120, .inl DD)), ((bd 5), .inl (cI, 5, .inl NU)), ((bd 6), .inl (cI, 120, .inl VA)), ((bd 7), .inl (cI, 120, .inl BE)), ((bd 8), .inl (cI, 128, .inl WA)), ((bd 9), .inl (cI, 30, .inl LE)), ((bd 10), .inl (cI, 30, .inl AA)), ((bd 11), .inl (cI, 30, .inl RI)), ((bd 12), .inl (cI, 10, .inl UN)), ((bd 13), .inl (cZ, 30, .inl CO))] H := hP
            have hD : va_D A [((bd 0), .inr (4, [.int th, .ref (bd 1), .ref (bd 2), .ref (bd 3), .ref (bd 4), .int (nI n), .ref (bd 5), .ref (bd 6), .ref (bd 7), .ref (bd 8), .ref (bd 9), .ref (bd 10), .ref (bd 11), .ref (bd 12), .ref (bd 13), .int (nI unk), .int (nI cnt)])), ((bd 1), .inl (cI, 120, .inl (upd K n (nI q.1)))), ((bd 2), .inl (cI, 120, .inl (upd F n (fF q)))), ((bd 3), .inl (cI, 120, .inl (upd S n (fS q)))), ((bd 4), .inl (cI, 120, .inl DD)), ((bd 5), .inl (cI, 5, .inl NU)), ((bd 6), .inl (cI, 120, .inl VA)), ((bd 7), .inl (cI, 120, .inl BE)), ((bd 8), .inl (cI, 128, .inl WA)), ((bd 9), .inl (cI, 30, .inl LE)), ((bd 10), .inl (cI, 30, .inl AA)), ((bd 11), .inl (cI, 30, .inl RI)), ((bd 12), .inl (cI, 10, .inl UN)), ((bd 13), .inl (cZ, 30, .inl CO))] := hD
            refine lv_aload_n hx hb d_Mo_make_152 rfl (lv_at hl 1 rfl) ?_
            refine va_get (D := (dC, dI)) (ci := 4) (v := .ref (bd 4)) (C := R_Mo) (T := F_Mo) (N := 17) hx hb htb ul_Mo hown hK hP 0 rfl rfl 4 (by decide) (htb _ mw_552) (fun _ h9 => h9) rfl d_Mo_make_153 ?_
            refine lv_aload_n hx hb d_Mo_make_156 rfl (lv_at hl 1 rfl) ?_
            refine va_get (D := (dC, dI)) (ci := 4) (v := .int (nI n)) (C := R_Mo) (T := F_Mo) (N := 17) hx hb htb ul_Mo hown hK hP 0 rfl rfl 5 (by decide) (htb _ mw_553) (fun _ h9 => h9) rfl d_Mo_make_157 ?_
            refine lv_iload hx hb d_Mo_make_160 (lv_at hl 0 rfl) ?_
            refine ry_iast (D := (dC, dI)) (j := n) hx hb hK hP hD hS 4 0 rfl rfl (by omega) (by decide) d_Mo_make_162 (fun H locs hP hD hS => ?_)
            have hP : va_P (dC, dI) classes [((bd 0), .inr (4, [.int th, .ref (bd 1), .ref (bd 2), .ref (bd 3), .ref (bd 4), .int (nI n), .ref (bd 5), .ref (bd 6), .ref (bd 7), .ref (bd 8), .ref (bd 9), .ref (bd 10), .ref (bd 11), .ref (bd 12), .ref (bd 13), .int (nI unk), .int (nI cnt)])), ((bd 1), .inl (cI, 120, .inl (upd K n (nI q.1)))), ((bd 2), .inl (cI, 120, .inl (upd F n (fF q)))), ((bd 3), .inl (cI, 120, .inl (upd S n (fS q)))), ((bd 4), .inl (cI, 120, .inl (upd DD n ((nI (dp (ext nd n q) n)))))), ((bd 5), .inl (cI, 5, .inl NU)), ((bd 6), .inl (cI, 120, .inl VA)), ((bd 7), .inl (cI, 120, .inl BE)), ((bd 8), .inl (cI, 128, .inl WA)), ((bd 9), .inl (cI, 30, .inl LE)), ((bd 10), .inl (cI, 30, .inl AA)), ((bd 11), .inl (cI, 30, .inl RI)), ((bd 12), .inl (cI, 10, .inl UN)), ((bd 13), .inl (cZ, 30, .inl CO))] H := hP
            have hD : va_D A [((bd 0), .inr (4, [.int th, .ref (bd 1), .ref (bd 2), .ref (bd 3), .ref (bd 4), .int (nI n), .ref (bd 5), .ref (bd 6), .ref (bd 7), .ref (bd 8), .ref (bd 9), .ref (bd 10), .ref (bd 11), .ref (bd 12), .ref (bd 13), .int (nI unk), .int (nI cnt)])), ((bd 1), .inl (cI, 120, .inl (upd K n (nI q.1)))), ((bd 2), .inl (cI, 120, .inl (upd F n (fF q)))), ((bd 3), .inl (cI, 120, .inl (upd S n (fS q)))), ((bd 4), .inl (cI, 120, .inl (upd DD n ((nI (dp (ext nd n q) n)))))), ((bd 5), .inl (cI, 5, .inl NU)), ((bd 6), .inl (cI, 120, .inl VA)), ((bd 7), .inl (cI, 120, .inl BE)), ((bd 8), .inl (cI, 128, .inl WA)), ((bd 9), .inl (cI, 30, .inl LE)), ((bd 10), .inl (cI, 30, .inl AA)), ((bd 11), .inl (cI, 30, .inl RI)), ((bd 12), .inl (cI, 10, .inl UN)), ((bd 13), .inl (cZ, 30, .inl CO))] := hD
            refine lv_aload_n hx hb d_Mo_make_163 rfl (lv_at hl 1 rfl) ?_
            refine lv_dup hx hb d_Mo_make_164 rfl ?_
            refine va_get (D := (dC, dI)) (ci := 4) (v := .int (nI n)) (C := R_Mo) (T := F_Mo) (N := 17) hx hb htb ul_Mo hown hK hP 0 rfl rfl 5 (by decide) (htb _ mw_553) (fun _ h9 => h9) rfl d_Mo_make_165 ?_
            refine lv_iconst (v := 1) hx hb d_Mo_make_168 (by decide) ?_
            refine lv_iadd hx hb d_Mo_make_169 ?_
            rw [nI_1]
            refine va_put (D := (dC, dI)) (ci := 4) (v := .int (nI (n + 1))) (ty := .int) (C := R_Mo) (T := F_Mo) (N := 17) hx hb htb ul_Mo t_Mo t_Mo_ok n_Mo hown hK hP hD hS 0 rfl rfl 5 (by decide) (htb _ mw_553) (fun _ h9 => h9) rfl (by decide +kernel) rfl rfl (Nat.le_of_ble_eq_true rfl) d_Mo_make_170 (fun H locs hP hD hS => ?_)
            have hP : va_P (dC, dI) classes [((bd 0), .inr (4, [.int th, .ref (bd 1), .ref (bd 2), .ref (bd 3), .ref (bd 4), .int (nI (n + 1)), .ref (bd 5), .ref (bd 6), .ref (bd 7), .ref (bd 8), .ref (bd 9), .ref (bd 10), .ref (bd 11), .ref (bd 12), .ref (bd 13), .int (nI unk), .int (nI cnt)])), ((bd 1), .inl (cI, 120, .inl (upd K n (nI q.1)))), ((bd 2), .inl (cI, 120, .inl (upd F n (fF q)))), ((bd 3), .inl (cI, 120, .inl (upd S n (fS q)))), ((bd 4), .inl (cI, 120, .inl (upd DD n ((nI (dp (ext nd n q) n)))))), ((bd 5), .inl (cI, 5, .inl NU)), ((bd 6), .inl (cI, 120, .inl VA)), ((bd 7), .inl (cI, 120, .inl BE)), ((bd 8), .inl (cI, 128, .inl WA)), ((bd 9), .inl (cI, 30, .inl LE)), ((bd 10), .inl (cI, 30, .inl AA)), ((bd 11), .inl (cI, 30, .inl RI)), ((bd 12), .inl (cI, 10, .inl UN)), ((bd 13), .inl (cZ, 30, .inl CO))] H := hP
            have hD : va_D A [((bd 0), .inr (4, [.int th, .ref (bd 1), .ref (bd 2), .ref (bd 3), .ref (bd 4), .int (nI (n + 1)), .ref (bd 5), .ref (bd 6), .ref (bd 7), .ref (bd 8), .ref (bd 9), .ref (bd 10), .ref (bd 11), .ref (bd 12), .ref (bd 13), .int (nI unk), .int (nI cnt)])), ((bd 1), .inl (cI, 120, .inl (upd K n (nI q.1)))), ((bd 2), .inl (cI, 120, .inl (upd F n (fF q)))), ((bd 3), .inl (cI, 120, .inl (upd S n (fS q)))), ((bd 4), .inl (cI, 120, .inl (upd DD n ((nI (dp (ext nd n q) n)))))), ((bd 5), .inl (cI, 5, .inl NU)), ((bd 6), .inl (cI, 120, .inl VA)), ((bd 7), .inl (cI, 120, .inl BE)), ((bd 8), .inl (cI, 128, .inl WA)), ((bd 9), .inl (cI, 30, .inl LE)), ((bd 10), .inl (cI, 30, .inl AA)), ((bd 11), .inl (cI, 30, .inl RI)), ((bd 12), .inl (cI, 10, .inl UN)), ((bd 13), .inl (cZ, 30, .inl CO))] := hD
            refine lv_aload_n hx hb d_Mo_make_173 rfl (lv_at hl 1 rfl) ?_
            refine va_get (D := (dC, dI)) (ci := 4) (v := .int (nI (n + 1))) (C := R_Mo) (T := F_Mo) (N := 17) hx hb htb ul_Mo hown hK hP 0 rfl rfl 5 (by decide) (htb _ mw_553) (fun _ h9 => h9) rfl d_Mo_make_174 ?_
            refine lv_iconst (v := 1) hx hb d_Mo_make_177 (by decide) ?_
            refine lv_isub hx hb d_Mo_make_178 ?_
            rw [nI_pred]
            exact W.iret (v := (nI n)) hx hb hr (fun t ht hW => ⟨⟨(nI n), ((upd K n (nI q.1)), (upd F n (fF q)), (upd S n (fS q)), (upd DD n (nI (dp (ext nd n q) n))), n + 1), rfl, ⟨ext nd n q, Or.inl (Or.inr ⟨hnew, hn1, hdd, rfl, rfl, rfl⟩), ext_mo hok hq hn1 hnew hdd⟩, by rw [ht]; exact hP, va_K.moved hW.alike hK, hD⟩, hS.F ht⟩) hS.2.2 d_Mo_make_179
        · have k2 : q.1 = 2 := (nI_eq (b := 2) (by omega) (by decide)).mp c_76
          have ha := hq.2.2.1 (by omega)
          rw [fF_n (by omega)] at hl
          refine lv_aload_n hx hb d_Mo_make_79 rfl (lv_at hl 0 rfl) ?_
          refine va_get (D := (dC, dI)) (ci := 4) (v := .ref (bd 4)) (C := R_Mo) (T := F_Mo) (N := 17) hx hb htb ul_Mo hown hK hP 0 rfl rfl 4 (by decide) (htb _ mw_552) (fun _ h9 => h9) rfl d_Mo_make_80 ?_
          refine lv_iload_n hx hb d_Mo_make_83 rfl (lv_at hl 2 rfl) ?_
          refine ry_iald (D := (dC, dI)) (j := q.2.1) hx hb hK hP 4 0 rfl rfl (by omega) (by decide) d_Mo_make_84 ?_
          refine lv_iconst (v := 1) hx hb d_Mo_make_85 (by decide) ?_
          refine lv_iadd hx hb d_Mo_make_86 ?_
          refine lv_goto (tgt := 120) hx hb d_Mo_make_87 (by decide) ?_
          rw [show (((DD q.2.1) + 1) : Int32) = nI (dp (ext nd n q) n) from by rw [ext_dp hq, dA, if_neg (by omega), if_pos k2, if_pos (by omega), hok.2.2 _ ha]; exact nI_1 _]
          refine lv_istore (lv' := [(4, .int (nI (dp (ext nd n q) n))), (0, .ref (bd 0)), (1, .int (nI q.1)), (2, .int (nI q.2.1)), (3, .int (fS q))]) hx hb d_Mo_make_120 hl (by decide) rfl (fun ls hl => ?_)
          rw [← fF_n (q := q) (by omega)] at hl
          refine lv_aload_n hx hb d_Mo_make_122 rfl (lv_at hl 1 rfl) ?_
          refine va_get (D := (dC, dI)) (ci := 4) (v := .ref (bd 1)) (C := R_Mo) (T := F_Mo) (N := 17) hx hb htb ul_Mo hown hK hP 0 rfl rfl 1 (by decide) (htb _ mw_549) (fun _ h9 => h9) rfl d_Mo_make_123 ?_
          refine lv_aload_n hx hb d_Mo_make_126 rfl (lv_at hl 1 rfl) ?_
          refine va_get (D := (dC, dI)) (ci := 4) (v := .int (nI n)) (C := R_Mo) (T := F_Mo) (N := 17) hx hb htb ul_Mo hown hK hP 0 rfl rfl 5 (by decide) (htb _ mw_553) (fun _ h9 => h9) rfl d_Mo_make_127 ?_
          refine lv_iload_n hx hb d_Mo_make_130 rfl (lv_at hl 2 rfl) ?_
          refine ry_iast (D := (dC, dI)) (j := n) hx hb hK hP hD hS 1 0 rfl rfl (by omega) (by decide) d_Mo_make_131 (fun H locs hP hD hS => ?_)
          have hP : va_P (dC, dI) classes [((bd 0), .inr (4, [.int th, .ref (bd 1), .ref (bd 2), .ref (bd 3), .ref (bd 4), .int (nI n), .ref (bd 5), .ref (bd 6), .ref (bd 7), .ref (bd 8), .ref (bd 9), .ref (bd 10), .ref (bd 11), .ref (bd 12), .ref (bd 13), .int (nI unk), .int (nI cnt)])), ((bd 1), .inl (cI, 120, .inl (upd K n (nI q.1)))), ((bd 2), .inl (cI, 120, .inl F)), ((bd 3), .inl (cI, 120, .inl S)), ((bd 4), .inl (cI, 120, .inl DD)), ((bd 5), .inl (cI, 5, .inl NU)), ((bd 6), .inl (cI, 120, .inl VA)), ((bd 7), .inl (cI, 120, .inl BE)), ((bd 8), .inl (cI, 128, .inl WA)), ((bd 9), .inl (cI, 30, .inl LE)), ((bd 10), .inl (cI, 30, .inl AA)), ((bd 11), .inl (cI, 30, .inl RI)), ((bd 12), .inl (cI, 10, .inl UN)), ((bd 13), .inl (cZ, 30, .inl CO))] H := hP
          have hD : va_D A [((bd 0), .inr (4, [.int th, .ref (bd 1), .ref (bd 2), .ref (bd 3), .ref (bd 4), .int (nI n), .ref (bd 5), .ref (bd 6), .ref (bd 7), .ref (bd 8), .ref (bd 9), .ref (bd 10), .ref (bd 11), .ref (bd 12), .ref (bd 13), .int (nI unk), .int (nI cnt)])), ((bd 1), .inl (cI, 120, .inl (upd K n (nI q.1)))), ((bd 2), .inl (cI, 120, .inl F)), ((bd 3), .inl (cI, 120, .inl S)), ((bd 4), .inl (cI, 120, .inl DD)), ((bd 5), .inl (cI, 5, .inl NU)), ((bd 6), .inl (cI, 120, .inl VA)), ((bd 7), .inl (cI, 120, .inl BE)), ((bd 8), .inl (cI, 128, .inl WA)), ((bd 9), .inl (cI, 30, .inl LE)), ((bd 10), .inl (cI, 30, .inl AA)), ((bd 11), .inl (cI, 30, .inl RI)), ((bd 12), .inl (cI, 10, .inl UN)), ((bd 13), .inl (cZ, 30, .inl CO))] := hD
          refine lv_aload_n hx hb d_Mo_make_132 rfl (lv_at hl 1 rfl) ?_
          refine va_get (D := (dC, dI)) (ci := 4) (v := .ref (bd 2)) (C := R_Mo) (T := F_Mo) (N := 17) hx hb htb ul_Mo hown hK hP 0 rfl rfl 2 (by decide) (htb _ mw_550) (fun _ h9 => h9) rfl d_Mo_make_133 ?_
          refine lv_aload_n hx hb d_Mo_make_136 rfl (lv_at hl 1 rfl) ?_
          refine va_get (D := (dC, dI)) (ci := 4) (v := .int (nI n)) (C := R_Mo) (T := F_Mo) (N := 17) hx hb htb ul_Mo hown hK hP 0 rfl rfl 5 (by decide) (htb _ mw_553) (fun _ h9 => h9) rfl d_Mo_make_137 ?_
          refine lv_iload_n hx hb d_Mo_make_140 rfl (lv_at hl 3 rfl) ?_
          refine ry_iast (D := (dC, dI)) (j := n) hx hb hK hP hD hS 2 0 rfl rfl (by omega) (by decide) d_Mo_make_141 (fun H locs hP hD hS => ?_)
          have hP : va_P (dC, dI) classes [((bd 0), .inr (4, [.int th, .ref (bd 1), .ref (bd 2), .ref (bd 3), .ref (bd 4), .int (nI n), .ref (bd 5), .ref (bd 6), .ref (bd 7), .ref (bd 8), .ref (bd 9), .ref (bd 10), .ref (bd 11), .ref (bd 12), .ref (bd 13), .int (nI unk), .int (nI cnt)])), ((bd 1), .inl (cI, 120, .inl (upd K n (nI q.1)))), ((bd 2), .inl (cI, 120, .inl (upd F n (fF q)))), ((bd 3), .inl (cI, 120, .inl S)), ((bd 4), .inl (cI, 120, .inl DD)), ((bd 5), .inl (cI, 5, .inl NU)), ((bd 6), .inl (cI, 120, .inl VA)), ((bd 7), .inl (cI, 120, .inl BE)), ((bd 8), .inl (cI, 128, .inl WA)), ((bd 9), .inl (cI, 30, .inl LE)), ((bd 10), .inl (cI, 30, .inl AA)), ((bd 11), .inl (cI, 30, .inl RI)), ((bd 12), .inl (cI, 10, .inl UN)), ((bd 13), .inl (cZ, 30, .inl CO))] H := hP
          have hD : va_D A [((bd 0), .inr (4, [.int th, .ref (bd 1), .ref (bd 2), .ref (bd 3), .ref (bd 4), .int (nI n), .ref (bd 5), .ref (bd 6), .ref (bd 7), .ref (bd 8), .ref (bd 9), .ref (bd 10), .ref (bd 11), .ref (bd 12), .ref (bd 13), .int (nI unk), .int (nI cnt)])), ((bd 1), .inl (cI, 120, .inl (upd K n (nI q.1)))), ((bd 2), .inl (cI, 120, .inl (upd F n (fF q)))), ((bd 3), .inl (cI, 120, .inl S)), ((bd 4), .inl (cI, 120, .inl DD)), ((bd 5), .inl (cI, 5, .inl NU)), ((bd 6), .inl (cI, 120, .inl VA)), ((bd 7), .inl (cI, 120, .inl BE)), ((bd 8), .inl (cI, 128, .inl WA)), ((bd 9), .inl (cI, 30, .inl LE)), ((bd 10), .inl (cI, 30, .inl AA)), ((bd 11), .inl (cI, 30, .inl RI)), ((bd 12), .inl (cI, 10, .inl UN)), ((bd 13), .inl (cZ, 30, .inl CO))] := hD
          refine lv_aload_n hx hb d_Mo_make_142 rfl (lv_at hl 1 rfl) ?_
          refine va_get (D := (dC, dI)) (ci := 4) (v := .ref (bd 3)) (C := R_Mo) (T := F_Mo) (N := 17) hx hb htb ul_Mo hown hK hP 0 rfl rfl 3 (by decide) (htb _ mw_551) (fun _ h9 => h9) rfl d_Mo_make_143 ?_
          refine lv_aload_n hx hb d_Mo_make_146 rfl (lv_at hl 1 rfl) ?_
          refine va_get (D := (dC, dI)) (ci := 4) (v := .int (nI n)) (C := R_Mo) (T := F_Mo) (N := 17) hx hb htb ul_Mo hown hK hP 0 rfl rfl 5 (by decide) (htb _ mw_553) (fun _ h9 => h9) rfl d_Mo_make_147 ?_
          refine lv_iload_n hx hb d_Mo_make_150 rfl (lv_at hl 4 rfl) ?_
          refine ry_iast (D := (dC, dI)) (j := n) hx hb hK hP hD hS 3 0 rfl rfl (by omega) (by decide) d_Mo_make_151 (fun H locs hP hD hS => ?_)
          have hP : va_P (dC, dI) classes [((bd 0), .inr (4, [.int th, .ref (bd 1), .ref (bd 2), .ref (bd 3), .ref (bd 4), .int (nI n), .ref (bd 5), .ref (bd 6), .ref (bd 7), .ref (bd 8), .ref (bd 9), .ref (bd 10), .ref (bd 11), .ref (bd 12), .ref (bd 13), .int (nI unk), .int (nI cnt)])), ((bd 1), .inl (cI, 120, .inl (upd K n (nI q.1)))), ((bd 2), .inl (cI, 120, .inl (upd F n (fF q)))), ((bd 3), .inl (cI, 120, .inl (upd S n (fS q)))), ((bd 4), .inl (cI, 120, .inl DD)), ((bd 5), .inl (cI, 5, .inl NU)), ((bd 6), .inl (cI, 120, .inl VA)), ((bd 7), .inl (cI, 120, .inl BE)), ((bd 8), .inl (cI, 128, .inl WA)), ((bd 9), .inl (cI, 30, .inl LE)), ((bd 10), .inl (cI, 30, .inl AA)), ((bd 11), .inl (cI, 30, .inl RI)), ((bd 12), .inl (cI, 10, .inl UN)), ((bd 13), .inl (cZ, 30, .inl CO))] H := hP
          have hD : va_D A [((bd 0), .inr (4, [.int th, .ref (bd 1), .ref (bd 2), .ref (bd 3), .ref (bd 4), .int (nI n), .ref (bd 5), .ref (bd 6), .ref (bd 7), .ref (bd 8), .ref (bd 9), .ref (bd 10), .ref (bd 11), .ref (bd 12), .ref (bd 13), .int (nI unk), .int (nI cnt)])), ((bd 1), .inl (cI, 120, .inl (upd K n (nI q.1)))), ((bd 2), .inl (cI, 120, .inl (upd F n (fF q)))), ((bd 3), .inl (cI, 120, .inl (upd S n (fS q)))), ((bd 4), .inl (cI, 120, .inl DD)), ((bd 5), .inl (cI, 5, .inl NU)), ((bd 6), .inl (cI, 120, .inl VA)), ((bd 7), .inl (cI, 120, .inl BE)), ((bd 8), .inl (cI, 128, .inl WA)), ((bd 9), .inl (cI, 30, .inl LE)), ((bd 10), .inl (cI, 30, .inl AA)), ((bd 11), .inl (cI, 30, .inl RI)), ((bd 12), .inl (cI, 10, .inl UN)), ((bd 13), .inl (cZ, 30, .inl CO))] := hD
          refine lv_aload_n hx hb d_Mo_make_152 rfl (lv_at hl 1 rfl) ?_
          refine va_get (D := (dC, dI)) (ci := 4) (v := .ref (bd 4)) (C := R_Mo) (T := F_Mo) (N := 17) hx hb htb ul_Mo hown hK hP 0 rfl rfl 4 (by decide) (htb _ mw_552) (fun _ h9 => h9) rfl d_Mo_make_153 ?_
          refine lv_aload_n hx hb d_Mo_make_156 rfl (lv_at hl 1 rfl) ?_
          refine va_get (D := (dC, dI)) (ci := 4) (v := .int (nI n)) (C := R_Mo) (T := F_Mo) (N := 17) hx hb htb ul_Mo hown hK hP 0 rfl rfl 5 (by decide) (htb _ mw_553) (fun _ h9 => h9) rfl d_Mo_make_157 ?_
          refine lv_iload hx hb d_Mo_make_160 (lv_at hl 0 rfl) ?_
          refine ry_iast (D := (dC, dI)) (j := n) hx hb hK hP hD hS 4 0 rfl rfl (by omega) (by decide) d_Mo_make_162 (fun H locs hP hD hS => ?_)
          have hP : va_P (dC, dI) classes [((bd 0), .inr (4, [.int th, .ref (bd 1), .ref (bd 2), .ref (bd 3), .ref (bd 4), .int (nI n), .ref (bd 5), .ref (bd 6), .ref (bd 7), .ref (bd 8), .ref (bd 9), .ref (bd 10), .ref (bd 11), .ref (bd 12), .ref (bd 13), .int (nI unk), .int (nI cnt)])), ((bd 1), .inl (cI, 120, .inl (upd K n (nI q.1)))), ((bd 2), .inl (cI, 120, .inl (upd F n (fF q)))), ((bd 3), .inl (cI, 120, .inl (upd S n (fS q)))), ((bd 4), .inl (cI, 120, .inl (upd DD n ((nI (dp (ext nd n q) n)))))), ((bd 5), .inl (cI, 5, .inl NU)), ((bd 6), .inl (cI, 120, .inl VA)), ((bd 7), .inl (cI, 120, .inl BE)), ((bd 8), .inl (cI, 128, .inl WA)), ((bd 9), .inl (cI, 30, .inl LE)), ((bd 10), .inl (cI, 30, .inl AA)), ((bd 11), .inl (cI, 30, .inl RI)), ((bd 12), .inl (cI, 10, .inl UN)), ((bd 13), .inl (cZ, 30, .inl CO))] H := hP
          have hD : va_D A [((bd 0), .inr (4, [.int th, .ref (bd 1), .ref (bd 2), .ref (bd 3), .ref (bd 4), .int (nI n), .ref (bd 5), .ref (bd 6), .ref (bd 7), .ref (bd 8), .ref (bd 9), .ref (bd 10), .ref (bd 11), .ref (bd 12), .ref (bd 13), .int (nI unk), .int (nI cnt)])), ((bd 1), .inl (cI, 120, .inl (upd K n (nI q.1)))), ((bd 2), .inl (cI, 120, .inl (upd F n (fF q)))), ((bd 3), .inl (cI, 120, .inl (upd S n (fS q)))), ((bd 4), .inl (cI, 120, .inl (upd DD n ((nI (dp (ext nd n q) n)))))), ((bd 5), .inl (cI, 5, .inl NU)), ((bd 6), .inl (cI, 120, .inl VA)), ((bd 7), .inl (cI, 120, .inl BE)), ((bd 8), .inl (cI, 128, .inl WA)), ((bd 9), .inl (cI, 30, .inl LE)), ((bd 10), .inl (cI, 30, .inl AA)), ((bd 11), .inl (cI, 30, .inl RI)), ((bd 12), .inl (cI, 10, .inl UN)), ((bd 13), .inl (cZ, 30, .inl CO))] := hD
          refine lv_aload_n hx hb d_Mo_make_163 rfl (lv_at hl 1 rfl) ?_
          refine lv_dup hx hb d_Mo_make_164 rfl ?_
          refine va_get (D := (dC, dI)) (ci := 4) (v := .int (nI n)) (C := R_Mo) (T := F_Mo) (N := 17) hx hb htb ul_Mo hown hK hP 0 rfl rfl 5 (by decide) (htb _ mw_553) (fun _ h9 => h9) rfl d_Mo_make_165 ?_
          refine lv_iconst (v := 1) hx hb d_Mo_make_168 (by decide) ?_
          refine lv_iadd hx hb d_Mo_make_169 ?_
          rw [nI_1]
          refine va_put (D := (dC, dI)) (ci := 4) (v := .int (nI (n + 1))) (ty := .int) (C := R_Mo) (T := F_Mo) (N := 17) hx hb htb ul_Mo t_Mo t_Mo_ok n_Mo hown hK hP hD hS 0 rfl rfl 5 (by decide) (htb _ mw_553) (fun _ h9 => h9) rfl (by decide +kernel) rfl rfl (Nat.le_of_ble_eq_true rfl) d_Mo_make_170 (fun H locs hP hD hS => ?_)
          have hP : va_P (dC, dI) classes [((bd 0), .inr (4, [.int th, .ref (bd 1), .ref (bd 2), .ref (bd 3), .ref (bd 4), .int (nI (n + 1)), .ref (bd 5), .ref (bd 6), .ref (bd 7), .ref (bd 8), .ref (bd 9), .ref (bd 10), .ref (bd 11), .ref (bd 12), .ref (bd 13), .int (nI unk), .int (nI cnt)])), ((bd 1), .inl (cI, 120, .inl (upd K n (nI q.1)))), ((bd 2), .inl (cI, 120, .inl (upd F n (fF q)))), ((bd 3), .inl (cI, 120, .inl (upd S n (fS q)))), ((bd 4), .inl (cI, 120, .inl (upd DD n ((nI (dp (ext nd n q) n)))))), ((bd 5), .inl (cI, 5, .inl NU)), ((bd 6), .inl (cI, 120, .inl VA)), ((bd 7), .inl (cI, 120, .inl BE)), ((bd 8), .inl (cI, 128, .inl WA)), ((bd 9), .inl (cI, 30, .inl LE)), ((bd 10), .inl (cI, 30, .inl AA)), ((bd 11), .inl (cI, 30, .inl RI)), ((bd 12), .inl (cI, 10, .inl UN)), ((bd 13), .inl (cZ, 30, .inl CO))] H := hP
          have hD : va_D A [((bd 0), .inr (4, [.int th, .ref (bd 1), .ref (bd 2), .ref (bd 3), .ref (bd 4), .int (nI (n + 1)), .ref (bd 5), .ref (bd 6), .ref (bd 7), .ref (bd 8), .ref (bd 9), .ref (bd 10), .ref (bd 11), .ref (bd 12), .ref (bd 13), .int (nI unk), .int (nI cnt)])), ((bd 1), .inl (cI, 120, .inl (upd K n (nI q.1)))), ((bd 2), .inl (cI, 120, .inl (upd F n (fF q)))), ((bd 3), .inl (cI, 120, .inl (upd S n (fS q)))), ((bd 4), .inl (cI, 120, .inl (upd DD n ((nI (dp (ext nd n q) n)))))), ((bd 5), .inl (cI, 5, .inl NU)), ((bd 6), .inl (cI, 120, .inl VA)), ((bd 7), .inl (cI, 120, .inl BE)), ((bd 8), .inl (cI, 128, .inl WA)), ((bd 9), .inl (cI, 30, .inl LE)), ((bd 10), .inl (cI, 30, .inl AA)), ((bd 11), .inl (cI, 30, .inl RI)), ((bd 12), .inl (cI, 10, .inl UN)), ((bd 13), .inl (cZ, 30, .inl CO))] := hD
          refine lv_aload_n hx hb d_Mo_make_173 rfl (lv_at hl 1 rfl) ?_
          refine va_get (D := (dC, dI)) (ci := 4) (v := .int (nI (n + 1))) (C := R_Mo) (T := F_Mo) (N := 17) hx hb htb ul_Mo hown hK hP 0 rfl rfl 5 (by decide) (htb _ mw_553) (fun _ h9 => h9) rfl d_Mo_make_174 ?_
          refine lv_iconst (v := 1) hx hb d_Mo_make_177 (by decide) ?_
          refine lv_isub hx hb d_Mo_make_178 ?_
          rw [nI_pred]
          exact W.iret (v := (nI n)) hx hb hr (fun t ht hW => ⟨⟨(nI n), ((upd K n (nI q.1)), (upd F n (fF q)), (upd S n (fS q)), (upd DD n (nI (dp (ext nd n q) n))), n + 1), rfl, ⟨ext nd n q, Or.inl (Or.inr ⟨hnew, hn1, hdd, rfl, rfl, rfl⟩), ext_mo hok hq hn1 hnew hdd⟩, by rw [ht]; exact hP, va_K.moved hW.alike hK, hD⟩, hS.F ht⟩) hS.2.2 d_Mo_make_179
      · refine lv_iconst (v := 0) hx hb d_Mo_make_70 (by decide) ?_
        refine lv_goto (tgt := 120) hx hb d_Mo_make_71 (by decide) ?_
        rw [show (0 : Int32) = nI (dp (ext nd n q) n) from by rw [ext_dp hq, dA, if_pos ((nI_ltI (b := 2) (by omega) (by decide)).mp (by rw [Int32.lt_iff_toInt_lt]; have h9 := c_67; rw [Int32.le_iff_toInt_le] at h9; exact Int.not_le.mp h9))]; rfl]
        refine lv_istore (lv' := [(4, .int (nI (dp (ext nd n q) n))), (0, .ref (bd 0)), (1, .int (nI q.1)), (2, .int (fF q)), (3, .int (fS q))]) hx hb d_Mo_make_120 hl (by decide) rfl (fun ls hl => ?_)
        refine lv_aload_n hx hb d_Mo_make_122 rfl (lv_at hl 1 rfl) ?_
        refine va_get (D := (dC, dI)) (ci := 4) (v := .ref (bd 1)) (C := R_Mo) (T := F_Mo) (N := 17) hx hb htb ul_Mo hown hK hP 0 rfl rfl 1 (by decide) (htb _ mw_549) (fun _ h9 => h9) rfl d_Mo_make_123 ?_
        refine lv_aload_n hx hb d_Mo_make_126 rfl (lv_at hl 1 rfl) ?_
        refine va_get (D := (dC, dI)) (ci := 4) (v := .int (nI n)) (C := R_Mo) (T := F_Mo) (N := 17) hx hb htb ul_Mo hown hK hP 0 rfl rfl 5 (by decide) (htb _ mw_553) (fun _ h9 => h9) rfl d_Mo_make_127 ?_
        refine lv_iload_n hx hb d_Mo_make_130 rfl (lv_at hl 2 rfl) ?_
        refine ry_iast (D := (dC, dI)) (j := n) hx hb hK hP hD hS 1 0 rfl rfl (by omega) (by decide) d_Mo_make_131 (fun H locs hP hD hS => ?_)
        have hP : va_P (dC, dI) classes [((bd 0), .inr (4, [.int th, .ref (bd 1), .ref (bd 2), .ref (bd 3), .ref (bd 4), .int (nI n), .ref (bd 5), .ref (bd 6), .ref (bd 7), .ref (bd 8), .ref (bd 9), .ref (bd 10), .ref (bd 11), .ref (bd 12), .ref (bd 13), .int (nI unk), .int (nI cnt)])), ((bd 1), .inl (cI, 120, .inl (upd K n (nI q.1)))), ((bd 2), .inl (cI, 120, .inl F)), ((bd 3), .inl (cI, 120, .inl S)), ((bd 4), .inl (cI, 120, .inl DD)), ((bd 5), .inl (cI, 5, .inl NU)), ((bd 6), .inl (cI, 120, .inl VA)), ((bd 7), .inl (cI, 120, .inl BE)), ((bd 8), .inl (cI, 128, .inl WA)), ((bd 9), .inl (cI, 30, .inl LE)), ((bd 10), .inl (cI, 30, .inl AA)), ((bd 11), .inl (cI, 30, .inl RI)), ((bd 12), .inl (cI, 10, .inl UN)), ((bd 13), .inl (cZ, 30, .inl CO))] H := hP
        have hD : va_D A [((bd 0), .inr (4, [.int th, .ref (bd 1), .ref (bd 2), .ref (bd 3), .ref (bd 4), .int (nI n), .ref (bd 5), .ref (bd 6), .ref (bd 7), .ref (bd 8), .ref (bd 9), .ref (bd 10), .ref (bd 11), .ref (bd 12), .ref (bd 13), .int (nI unk), .int (nI cnt)])), ((bd 1), .inl (cI, 120, .inl (upd K n (nI q.1)))), ((bd 2), .inl (cI, 120, .inl F)), ((bd 3), .inl (cI, 120, .inl S)), ((bd 4), .inl (cI, 120, .inl DD)), ((bd 5), .inl (cI, 5, .inl NU)), ((bd 6), .inl (cI, 120, .inl VA)), ((bd 7), .inl (cI, 120, .inl BE)), ((bd 8), .inl (cI, 128, .inl WA)), ((bd 9), .inl (cI, 30, .inl LE)), ((bd 10), .inl (cI, 30, .inl AA)), ((bd 11), .inl (cI, 30, .inl RI)), ((bd 12), .inl (cI, 10, .inl UN)), ((bd 13), .inl (cZ, 30, .inl CO))] := hD
        refine lv_aload_n hx hb d_Mo_make_132 rfl (lv_at hl 1 rfl) ?_
        refine va_get (D := (dC, dI)) (ci := 4) (v := .ref (bd 2)) (C := R_Mo) (T := F_Mo) (N := 17) hx hb htb ul_Mo hown hK hP 0 rfl rfl 2 (by decide) (htb _ mw_550) (fun _ h9 => h9) rfl d_Mo_make_133 ?_
        refine lv_aload_n hx hb d_Mo_make_136 rfl (lv_at hl 1 rfl) ?_
        refine va_get (D := (dC, dI)) (ci := 4) (v := .int (nI n)) (C := R_Mo) (T := F_Mo) (N := 17) hx hb htb ul_Mo hown hK hP 0 rfl rfl 5 (by decide) (htb _ mw_553) (fun _ h9 => h9) rfl d_Mo_make_137 ?_
        refine lv_iload_n hx hb d_Mo_make_140 rfl (lv_at hl 3 rfl) ?_
        refine ry_iast (D := (dC, dI)) (j := n) hx hb hK hP hD hS 2 0 rfl rfl (by omega) (by decide) d_Mo_make_141 (fun H locs hP hD hS => ?_)
        have hP : va_P (dC, dI) classes [((bd 0), .inr (4, [.int th, .ref (bd 1), .ref (bd 2), .ref (bd 3), .ref (bd 4), .int (nI n), .ref (bd 5), .ref (bd 6), .ref (bd 7), .ref (bd 8), .ref (bd 9), .ref (bd 10), .ref (bd 11), .ref (bd 12), .ref (bd 13), .int (nI unk), .int (nI cnt)])), ((bd 1), .inl (cI, 120, .inl (upd K n (nI q.1)))), ((bd 2), .inl (cI, 120, .inl (upd F n (fF q)))), ((bd 3), .inl (cI, 120, .inl S)), ((bd 4), .inl (cI, 120, .inl DD)), ((bd 5), .inl (cI, 5, .inl NU)), ((bd 6), .inl (cI, 120, .inl VA)), ((bd 7), .inl (cI, 120, .inl BE)), ((bd 8), .inl (cI, 128, .inl WA)), ((bd 9), .inl (cI, 30, .inl LE)), ((bd 10), .inl (cI, 30, .inl AA)), ((bd 11), .inl (cI, 30, .inl RI)), ((bd 12), .inl (cI, 10, .inl UN)), ((bd 13), .inl (cZ, 30, .inl CO))] H := hP
        have hD : va_D A [((bd 0), .inr (4, [.int th, .ref (bd 1), .ref (bd 2), .ref (bd 3), .ref (bd 4), .int (nI n), .ref (bd 5), .ref (bd 6), .ref (bd 7), .ref (bd 8), .ref (bd 9), .ref (bd 10), .ref (bd 11), .ref (bd 12), .ref (bd 13), .int (nI unk), .int (nI cnt)])), ((bd 1), .inl (cI, 120, .inl (upd K n (nI q.1)))), ((bd 2), .inl (cI, 120, .inl (upd F n (fF q)))), ((bd 3), .inl (cI, 120, .inl S)), ((bd 4), .inl (cI, 120, .inl DD)), ((bd 5), .inl (cI, 5, .inl NU)), ((bd 6), .inl (cI, 120, .inl VA)), ((bd 7), .inl (cI, 120, .inl BE)), ((bd 8), .inl (cI, 128, .inl WA)), ((bd 9), .inl (cI, 30, .inl LE)), ((bd 10), .inl (cI, 30, .inl AA)), ((bd 11), .inl (cI, 30, .inl RI)), ((bd 12), .inl (cI, 10, .inl UN)), ((bd 13), .inl (cZ, 30, .inl CO))] := hD
        refine lv_aload_n hx hb d_Mo_make_142 rfl (lv_at hl 1 rfl) ?_
        refine va_get (D := (dC, dI)) (ci := 4) (v := .ref (bd 3)) (C := R_Mo) (T := F_Mo) (N := 17) hx hb htb ul_Mo hown hK hP 0 rfl rfl 3 (by decide) (htb _ mw_551) (fun _ h9 => h9) rfl d_Mo_make_143 ?_
        refine lv_aload_n hx hb d_Mo_make_146 rfl (lv_at hl 1 rfl) ?_
        refine va_get (D := (dC, dI)) (ci := 4) (v := .int (nI n)) (C := R_Mo) (T := F_Mo) (N := 17) hx hb htb ul_Mo hown hK hP 0 rfl rfl 5 (by decide) (htb _ mw_553) (fun _ h9 => h9) rfl d_Mo_make_147 ?_
        refine lv_iload_n hx hb d_Mo_make_150 rfl (lv_at hl 4 rfl) ?_
        refine ry_iast (D := (dC, dI)) (j := n) hx hb hK hP hD hS 3 0 rfl rfl (by omega) (by decide) d_Mo_make_151 (fun H locs hP hD hS => ?_)
        have hP : va_P (dC, dI) classes [((bd 0), .inr (4, [.int th, .ref (bd 1), .ref (bd 2), .ref (bd 3), .ref (bd 4), .int (nI n), .ref (bd 5), .ref (bd 6), .ref (bd 7), .ref (bd 8), .ref (bd 9), .ref (bd 10), .ref (bd 11), .ref (bd 12), .ref (bd 13), .int (nI unk), .int (nI cnt)])), ((bd 1), .inl (cI, 120, .inl (upd K n (nI q.1)))), ((bd 2), .inl (cI, 120, .inl (upd F n (fF q)))), ((bd 3), .inl (cI, 120, .inl (upd S n (fS q)))), ((bd 4), .inl (cI, 120, .inl DD)), ((bd 5), .inl (cI, 5, .inl NU)), ((bd 6), .inl (cI, 120, .inl VA)), ((bd 7), .inl (cI, 120, .inl BE)), ((bd 8), .inl (cI, 128, .inl WA)), ((bd 9), .inl (cI, 30, .inl LE)), ((bd 10), .inl (cI, 30, .inl AA)), ((bd 11), .inl (cI, 30, .inl RI)), ((bd 12), .inl (cI, 10, .inl UN)), ((bd 13), .inl (cZ, 30, .inl CO))] H := hP
        have hD : va_D A [((bd 0), .inr (4, [.int th, .ref (bd 1), .ref (bd 2), .ref (bd 3), .ref (bd 4), .int (nI n), .ref (bd 5), .ref (bd 6), .ref (bd 7), .ref (bd 8), .ref (bd 9), .ref (bd 10), .ref (bd 11), .ref (bd 12), .ref (bd 13), .int (nI unk), .int (nI cnt)])), ((bd 1), .inl (cI, 120, .inl (upd K n (nI q.1)))), ((bd 2), .inl (cI, 120, .inl (upd F n (fF q)))), ((bd 3), .inl (cI, 120, .inl (upd S n (fS q)))), ((bd 4), .inl (cI, 120, .inl DD)), ((bd 5), .inl (cI, 5, .inl NU)), ((bd 6), .inl (cI, 120, .inl VA)), ((bd 7), .inl (cI, 120, .inl BE)), ((bd 8), .inl (cI, 128, .inl WA)), ((bd 9), .inl (cI, 30, .inl LE)), ((bd 10), .inl (cI, 30, .inl AA)), ((bd 11), .inl (cI, 30, .inl RI)), ((bd 12), .inl (cI, 10, .inl UN)), ((bd 13), .inl (cZ, 30, .inl CO))] := hD
        refine lv_aload_n hx hb d_Mo_make_152 rfl (lv_at hl 1 rfl) ?_
        refine va_get (D := (dC, dI)) (ci := 4) (v := .ref (bd 4)) (C := R_Mo) (T := F_Mo) (N := 17) hx hb htb ul_Mo hown hK hP 0 rfl rfl 4 (by decide) (htb _ mw_552) (fun _ h9 => h9) rfl d_Mo_make_153 ?_
        refine lv_aload_n hx hb d_Mo_make_156 rfl (lv_at hl 1 rfl) ?_
        refine va_get (D := (dC, dI)) (ci := 4) (v := .int (nI n)) (C := R_Mo) (T := F_Mo) (N := 17) hx hb htb ul_Mo hown hK hP 0 rfl rfl 5 (by decide) (htb _ mw_553) (fun _ h9 => h9) rfl d_Mo_make_157 ?_
        refine lv_iload hx hb d_Mo_make_160 (lv_at hl 0 rfl) ?_
        refine ry_iast (D := (dC, dI)) (j := n) hx hb hK hP hD hS 4 0 rfl rfl (by omega) (by decide) d_Mo_make_162 (fun H locs hP hD hS => ?_)
        have hP : va_P (dC, dI) classes [((bd 0), .inr (4, [.int th, .ref (bd 1), .ref (bd 2), .ref (bd 3), .ref (bd 4), .int (nI n), .ref (bd 5), .ref (bd 6), .ref (bd 7), .ref (bd 8), .ref (bd 9), .ref (bd 10), .ref (bd 11), .ref (bd 12), .ref (bd 13), .int (nI unk), .int (nI cnt)])), ((bd 1), .inl (cI, 120, .inl (upd K n (nI q.1)))), ((bd 2), .inl (cI, 120, .inl (upd F n (fF q)))), ((bd 3), .inl (cI, 120, .inl (upd S n (fS q)))), ((bd 4), .inl (cI, 120, .inl (upd DD n ((nI (dp (ext nd n q) n)))))), ((bd 5), .inl (cI, 5, .inl NU)), ((bd 6), .inl (cI, 120, .inl VA)), ((bd 7), .inl (cI, 120, .inl BE)), ((bd 8), .inl (cI, 128, .inl WA)), ((bd 9), .inl (cI, 30, .inl LE)), ((bd 10), .inl (cI, 30, .inl AA)), ((bd 11), .inl (cI, 30, .inl RI)), ((bd 12), .inl (cI, 10, .inl UN)), ((bd 13), .inl (cZ, 30, .inl CO))] H := hP
        have hD : va_D A [((bd 0), .inr (4, [.int th, .ref (bd 1), .ref (bd 2), .ref (bd 3), .ref (bd 4), .int (nI n), .ref (bd 5), .ref (bd 6), .ref (bd 7), .ref (bd 8), .ref (bd 9), .ref (bd 10), .ref (bd 11), .ref (bd 12), .ref (bd 13), .int (nI unk), .int (nI cnt)])), ((bd 1), .inl (cI, 120, .inl (upd K n (nI q.1)))), ((bd 2), .inl (cI, 120, .inl (upd F n (fF q)))), ((bd 3), .inl (cI, 120, .inl (upd S n (fS q)))), ((bd 4), .inl (cI, 120, .inl (upd DD n ((nI (dp (ext nd n q) n)))))), ((bd 5), .inl (cI, 5, .inl NU)), ((bd 6), .inl (cI, 120, .inl VA)), ((bd 7), .inl (cI, 120, .inl BE)), ((bd 8), .inl (cI, 128, .inl WA)), ((bd 9), .inl (cI, 30, .inl LE)), ((bd 10), .inl (cI, 30, .inl AA)), ((bd 11), .inl (cI, 30, .inl RI)), ((bd 12), .inl (cI, 10, .inl UN)), ((bd 13), .inl (cZ, 30, .inl CO))] := hD
        refine lv_aload_n hx hb d_Mo_make_163 rfl (lv_at hl 1 rfl) ?_
        refine lv_dup hx hb d_Mo_make_164 rfl ?_
        refine va_get (D := (dC, dI)) (ci := 4) (v := .int (nI n)) (C := R_Mo) (T := F_Mo) (N := 17) hx hb htb ul_Mo hown hK hP 0 rfl rfl 5 (by decide) (htb _ mw_553) (fun _ h9 => h9) rfl d_Mo_make_165 ?_
        refine lv_iconst (v := 1) hx hb d_Mo_make_168 (by decide) ?_
        refine lv_iadd hx hb d_Mo_make_169 ?_
        rw [nI_1]
        refine va_put (D := (dC, dI)) (ci := 4) (v := .int (nI (n + 1))) (ty := .int) (C := R_Mo) (T := F_Mo) (N := 17) hx hb htb ul_Mo t_Mo t_Mo_ok n_Mo hown hK hP hD hS 0 rfl rfl 5 (by decide) (htb _ mw_553) (fun _ h9 => h9) rfl (by decide +kernel) rfl rfl (Nat.le_of_ble_eq_true rfl) d_Mo_make_170 (fun H locs hP hD hS => ?_)
        have hP : va_P (dC, dI) classes [((bd 0), .inr (4, [.int th, .ref (bd 1), .ref (bd 2), .ref (bd 3), .ref (bd 4), .int (nI (n + 1)), .ref (bd 5), .ref (bd 6), .ref (bd 7), .ref (bd 8), .ref (bd 9), .ref (bd 10), .ref (bd 11), .ref (bd 12), .ref (bd 13), .int (nI unk), .int (nI cnt)])), ((bd 1), .inl (cI, 120, .inl (upd K n (nI q.1)))), ((bd 2), .inl (cI, 120, .inl (upd F n (fF q)))), ((bd 3), .inl (cI, 120, .inl (upd S n (fS q)))), ((bd 4), .inl (cI, 120, .inl (upd DD n ((nI (dp (ext nd n q) n)))))), ((bd 5), .inl (cI, 5, .inl NU)), ((bd 6), .inl (cI, 120, .inl VA)), ((bd 7), .inl (cI, 120, .inl BE)), ((bd 8), .inl (cI, 128, .inl WA)), ((bd 9), .inl (cI, 30, .inl LE)), ((bd 10), .inl (cI, 30, .inl AA)), ((bd 11), .inl (cI, 30, .inl RI)), ((bd 12), .inl (cI, 10, .inl UN)), ((bd 13), .inl (cZ, 30, .inl CO))] H := hP
        have hD : va_D A [((bd 0), .inr (4, [.int th, .ref (bd 1), .ref (bd 2), .ref (bd 3), .ref (bd 4), .int (nI (n + 1)), .ref (bd 5), .ref (bd 6), .ref (bd 7), .ref (bd 8), .ref (bd 9), .ref (bd 10), .ref (bd 11), .ref (bd 12), .ref (bd 13), .int (nI unk), .int (nI cnt)])), ((bd 1), .inl (cI, 120, .inl (upd K n (nI q.1)))), ((bd 2), .inl (cI, 120, .inl (upd F n (fF q)))), ((bd 3), .inl (cI, 120, .inl (upd S n (fS q)))), ((bd 4), .inl (cI, 120, .inl (upd DD n ((nI (dp (ext nd n q) n)))))), ((bd 5), .inl (cI, 5, .inl NU)), ((bd 6), .inl (cI, 120, .inl VA)), ((bd 7), .inl (cI, 120, .inl BE)), ((bd 8), .inl (cI, 128, .inl WA)), ((bd 9), .inl (cI, 30, .inl LE)), ((bd 10), .inl (cI, 30, .inl AA)), ((bd 11), .inl (cI, 30, .inl RI)), ((bd 12), .inl (cI, 10, .inl UN)), ((bd 13), .inl (cZ, 30, .inl CO))] := hD
        refine lv_aload_n hx hb d_Mo_make_173 rfl (lv_at hl 1 rfl) ?_
        refine va_get (D := (dC, dI)) (ci := 4) (v := .int (nI (n + 1))) (C := R_Mo) (T := F_Mo) (N := 17) hx hb htb ul_Mo hown hK hP 0 rfl rfl 5 (by decide) (htb _ mw_553) (fun _ h9 => h9) rfl d_Mo_make_174 ?_
        refine lv_iconst (v := 1) hx hb d_Mo_make_177 (by decide) ?_
        refine lv_isub hx hb d_Mo_make_178 ?_
        rw [nI_pred]
        exact W.iret (v := (nI n)) hx hb hr (fun t ht hW => ⟨⟨(nI n), ((upd K n (nI q.1)), (upd F n (fF q)), (upd S n (fS q)), (upd DD n (nI (dp (ext nd n q) n))), n + 1), rfl, ⟨ext nd n q, Or.inl (Or.inr ⟨hnew, hn1, hdd, rfl, rfl, rfl⟩), ext_mo hok hq hn1 hnew hdd⟩, by rw [ht]; exact hP, va_K.moved hW.alike hK, hD⟩, hS.F ht⟩) hS.2.2 d_Mo_make_179
    · refine lv_iconst (v := (-1)) hx hb d_Mo_make_63 (by decide) ?_
      exact W.iret (v := (-1)) hx hb hr (fun t ht hW => ⟨⟨(-1), (K, F, S, DD, n), rfl, ⟨nd, Or.inr ⟨hnew, (nI_eq (b := 120) (by omega) (by decide)).mp c_60, rfl, rfl, rfl⟩, hok⟩, by rw [ht]; exact hP, va_K.moved hW.alike hK, hD⟩, hS.F ht⟩) hS.2.2 d_Mo_make_64
end
section
theorem zz_last : True := trivial
end
