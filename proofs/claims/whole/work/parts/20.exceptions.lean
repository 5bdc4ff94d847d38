/-! What a throw needs: the exceptions' words, Throwable's two statics, the texts. -/
theorem dc_of {y : MethodName} {b : ByteArray} {n : Nat} {r : Option FieldType} {args : Array Value} {s : State} (h1 : (Cond.instanceMethod y).before args s = true) (h2 : (Cond.code y b n r).before args s = true) : (Cond.declares y).before args s = true := by
  obtain ⟨mk, meth, hn, hm, hst, hab⟩ := Cond.instanceMethod_spec h1
  obtain ⟨meth', c, hm', -, -, -, -, -, -, hsig⟩ := Cond.code_spec hn h2
  cases hm.symm.trans hm'
  simp [Cond.before, Cond.holds, Cond.value, hn, hm, hst, hsig]
theorem cs_of {X : String} {args : Array Value} {s : State} (h : (Cond.initialized X).before args s = true) : (Cond.castable X X).before args s = true := by
  cases h1 : s.vm.findClass X with
  | none => simp [Cond.before, Cond.holds, Cond.value, h1] at h
  | some c => simp [Cond.before, Cond.holds, Cond.value, h1, va_asg]
/-- a static field as it is laid, in a cell that nobody here writes -/
def lsq (C n d : String) (A : Nat → Prop) (U : State) (H : Heap) : Prop := ∃ (c : ClassId) (k : Class) (i : Nat) (f : Field) (a : Nat) (cell : Cell), U.vm.findClass C = some c ∧ U.fieldFound? C n d = some (c, k, i, f) ∧ f.isStatic = true ∧ k.statics = some a ∧ H[a]? = some cell ∧ cell.vm.isStatics = true ∧ cell.cls = c ∧ f.slot < cell.slots.size ∧ k.staticTypes[f.slot]? = some f.type ∧ ¬ A a
theorem lsq.moved {C n d : String} {A : Nat → Prop} {u U : State} {H : Heap} (hvm : u.vm.Alike U.vm) (h : lsq C n d A u H) : lsq C n d A U H := by
  obtain ⟨c, k, i, f, a, cell, h0, h1, h2, h3, h4, h5, h6, h7, h8, h9⟩ := h
  obtain ⟨k', hi', he⟩ := State.fieldFound?_setVm hvm h1
  exact ⟨c, k', i, f, a, cell, by rw [hvm.findClass]; exact h0, hi', h2, by rw [he]; exact h3, h4, h5, h6, h7, by rw [he]; exact h8, h9⟩
theorem lsq.kept {C n d : String} {A : Nat → Prop} {U : State} {H H1 : Heap} (h : lsq C n d A U H) (hq : ∀ a : Nat, a < H.size → ¬ A a → H1[a]? = H[a]?) : lsq C n d A U H1 := by
  obtain ⟨c, k, i, f, a, cell, h0, h1, h2, h3, h4, h5, h6, h7, h8, h9⟩ := h
  exact ⟨c, k, i, f, a, cell, h0, h1, h2, h3, by rw [hq a (Array.getElem?_eq_some_iff.mp h4).1 h9]; exact h4, h5, h6, h7, h8, h9⟩
theorem lsq.narrow {C n d : String} {A B : Nat → Prop} {U : State} {H : Heap} (h : lsq C n d A U H) (hAB : ∀ q, B q → A q) : lsq C n d B U H := by
  obtain ⟨c, k, i, f, a, cell, h0, h1, h2, h3, h4, h5, h6, h7, h8, h9⟩ := h
  exact ⟨c, k, i, f, a, cell, h0, h1, h2, h3, h4, h5, h6, h7, h8, fun z => h9 (hAB a z)⟩
theorem lsq_of {C n d : String} {A : Nat → Prop} {args : Array Value} {s : State} (h : (Cond.laysStatic C n d).before args s = true) (hA : ∀ a : Nat, a < s.heap.size → ¬ A a) : lsq C n d A s s.heap := by
  obtain ⟨c, k, i, f, a, cell, h0, h1, h2, h3, h4, h5, h6, h7, h8⟩ := Cond.laysStatic_spec h
  exact ⟨c, k, i, f, a, cell, h0, h1, h2, h3, h4, h5, h6, h7, h8, hA a (Array.getElem?_eq_some_iff.mp h4).1⟩
theorem lsq_use {C n d : String} {A : Nat → Prop} {args : Array Value} {s : State} (h : lsq C n d A s s.heap) : (Cond.laysStatic C n d).before args s = true := by
  obtain ⟨c, k, i, f, a, cell, h0, h1, h2, h3, h4, h5, h6, h7, h8, -⟩ := h
  simp [Cond.before, Cond.holds, Cond.value, h0, h1, h2, h3, h4, h5, h6, h7, h8]
/-- Throwable's two statics -/
def thx (A : Nat → Prop) (U : State) (H : Heap) : Prop := (va_Zq Bundle.tN "UNASSIGNED_STACK" Bundle.steD A U H ∧ va_Zq Bundle.tN "SUPPRESSED_SENTINEL" Bundle.listD A U H) ∧ lsq Bundle.tN "UNASSIGNED_STACK" Bundle.steD A U H ∧ lsq Bundle.tN "SUPPRESSED_SENTINEL" Bundle.listD A U H
theorem thx.moved {A : Nat → Prop} {u U : State} {H : Heap} (hvm : u.vm.Alike U.vm) (h : thx A u H) : thx A U H := ⟨⟨h.1.1.moved hvm, h.1.2.moved hvm⟩, h.2.1.moved hvm, h.2.2.moved hvm⟩
theorem thx.kept {A : Nat → Prop} {U : State} {H H1 : Heap} (h : thx A U H) (hq : ∀ a : Nat, a < H.size → ¬ A a → H1[a]? = H[a]?) : thx A U H1 := ⟨⟨h.1.1.kept hq, h.1.2.kept hq⟩, h.2.1.kept hq, h.2.2.kept hq⟩
theorem thx.narrow {A B : Nat → Prop} {U : State} {H : Heap} (h : thx A U H) (hAB : ∀ q, B q → A q) : thx B U H := ⟨⟨h.1.1.narrow hAB, h.1.2.narrow hAB⟩, h.2.1.narrow hAB, h.2.2.narrow hAB⟩
theorem zq_ref {C n d : String} {A : Nat → Prop} {args : Array Value} {s : State} (h : va_Zq C n d A s s.heap) : (Cond.isRef (.static C n d)).before args s = true := by
  rcases h with h | ⟨t, h⟩ <;>
  · obtain ⟨cf, kf, fi, f, a, cell, h1, h2, h3, h4, h5, h6, h7, h8⟩ := h
    have hv := h7
    simp [Cond.before, Cond.holds, Cond.value, Term.eval, State.fieldNamed?, h1, h2, h4, h5, h6, hv]
def strs (U : State) : Prop := (∃ a, vk_R R_Lv 59 "more than 60 NEXTs in one another" a U) ∧ (∃ a, vk_R R_Lv 66 "there are 120 levels" a U) ∧ (∃ a, vk_R R_LR 138 "no such parameter" a U) ∧ (∃ a, vk_R R_LR 136 "no such level" a U) ∧ (∃ a, vk_R R_LR 60 "no such region" a U) ∧ (∃ a, vk_R R_LR 98 "there are 10 unknowns" a U) ∧ (∃ a, vk_R R_LR 107 "no such unknown" a U) ∧ (∃ a, vk_R R_LR 111 "k is not in -20 .. 20" a U) ∧ (∃ a, vk_R R_LR 117 "there are 30 needs" a U)
theorem strs.by {u U : State} (h : ∀ {own tx : String} {k a : Nat}, vk_R own k tx a u → vk_R own k tx a U) (hs : strs u) : strs U := by
  obtain ⟨⟨a1, h1⟩, ⟨a2, h2⟩, ⟨a3, h3⟩, ⟨a4, h4⟩, ⟨a5, h5⟩, ⟨a6, h6⟩, ⟨a7, h7⟩, ⟨a8, h8⟩, ⟨a9, h9⟩⟩ := hs
  exact ⟨⟨a1, h h1⟩, ⟨a2, h h2⟩, ⟨a3, h h3⟩, ⟨a4, h h4⟩, ⟨a5, h h5⟩, ⟨a6, h h6⟩, ⟨a7, h h7⟩, ⟨a8, h h8⟩, ⟨a9, h h9⟩⟩
theorem strs.warm {s U : State} (hW : s.WarmedH U.vm) (h : strs s) : strs U := strs.by (fun z => vk_R.warm hW z) h
theorem strs.same {u U : State} (hv : U.vm = u.vm) (h : strs u) : strs U := strs.by (fun z => vk_R.same hv z) h
abbrev exN : List String := ["java/lang/RuntimeException", "java/lang/Exception"]
theorem ex_fit : ∀ n ∈ exN, Bundle.fit n = true := by decide +kernel
section EXA
variable {args : Array Value} {s : State}
set_option maxRecDepth 100000 in
set_option maxHeartbeats 4000000 in
theorem ex_atoms {own X : String} {ic : Nat} (htb : ∀ w ∈ tb, w.before args s = true) (hX : X = "java/lang/IllegalArgumentException" ∨ X = "java/lang/IllegalStateException" ∨ X = "java/lang/IndexOutOfBoundsException") (hml : (Cond.methodLink own ic (Bundle.initS X)).before args s = true) {A : Nat → Prop} (hx : thx A s s.heap) :
    ∀ a ∈ Bundle.ownAtoms own ic X exN, a.before args s = true := by
  have hi : (Cond.initialized X).before args s = true := by rcases hX with rfl | rfl | rfl <;> exact htb _ (tb_t (by decide +kernel) rfl)
  have d1 : (Cond.declares (Bundle.initS "java/lang/RuntimeException")).before args s = true := dc_of (b := Bundle.six) (n := 2) (r := none) (htb _ (tb_t (by decide +kernel) rfl)) (htb _ (tb_t (by decide +kernel) rfl))
  have d2 : (Cond.declares (Bundle.initS "java/lang/Exception")).before args s = true := dc_of (b := Bundle.six) (n := 2) (r := none) (htb _ (tb_t (by decide +kernel) rfl)) (htb _ (tb_t (by decide +kernel) rfl))
  have d3 : (Cond.declares (Bundle.initS Bundle.tN)).before args s = true := dc_of (b := Jvm.LibCode.Throwable.InitS.code) (n := 2) (r := none) (htb _ (tb_t (by decide +kernel) rfl)) (htb _ (tb_t (by decide +kernel) rfl))
  intro a ha
  simp only [Bundle.ownAtoms, Bundle.throwableAtoms, Bundle.throwableSAtoms, Bundle.chainSAtoms, Bundle.passSAtoms, List.mem_append, List.mem_cons, List.not_mem_nil, or_false, false_or] at ha
  repeat' (refine Or.elim ha ?_ ?_ <;> clear ha <;> intro ha)
  all_goals subst ha
  all_goals first
    | exact hml
    | exact cs_of hi
    | exact d1
    | exact d2
    | exact d3
    | exact zq_ref hx.1.1
    | exact zq_ref hx.1.2
    | exact lsq_use hx.2.1
    | exact lsq_use hx.2.2
    | exact htb _ (tb_t (by decide +kernel) rfl)
    | (rcases hX with rfl | rfl | rfl <;> exact htb _ (tb_t (by decide +kernel) rfl))
end EXA
