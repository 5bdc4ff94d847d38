/-! 'throw new X("..")' and 'catch', over the kit's W. -/
section WX3
variable {p : Program} {l : Launch} {e : Env} {R : Room} {s : State} {m : MethodId} {args : Array Value} {below : List Frame} {meth : Method} {c : Code} {T : State} {H : Heap} {locs : List Loc} {cells slots : Nat} {Q : State → Prop}
variable {cc : ByteArray} {pc : Nat} {ls : Array Slot} {rest : List Value} {Qc : Array Value → State → Outcome → State → Prop} {free : Addr → Prop}
/-- new X, dup, ldc, X.<init>(String), athrow, in a method that has written nothing yet -/
theorem wx_throw (hexec : p.tables.exec = Jvm.exec) (hb : c.code = cc) (htr : ∀ e, l.admits e → e.platform.stackTraces = false) {own X tx : String} {names : List String} {i0 i1 i2 q : Nat}
    (hown : s.vm.findClass own = some m.cls) (hcls : Bundle.fit X = true) (hnames : ∀ n ∈ names, Bundle.fit n = true)
    (hcl : (Cond.classLink own i0 X).before args s = true) (hins : (Cond.instantiable X 6).before args s = true) (hini : (Cond.initialized X).before args s = true)
    (hat : ∀ a ∈ Bundle.ownAtoms own i2 X names, a.before args s = true) (hZ : vk_R own i1 tx q s)
    (ht : c.exceptionTable.toList = []) (hlocks : meth.locks = false) (hsize : ls.size = c.maxLocals)
    (hd0 : decode cc pc = .ok (.new i0, 3)) (hd3 : decode cc (pc + 3) = .ok (.dup, 1)) (hd4 : decode cc (pc + 4) = .ok (.ldc i1, 2)) (hd6 : decode cc (pc + 6) = .ok (.invokespecial i2, 3)) (hd9 : decode cc (pc + 9) = .ok (.athrow, 1))
    (hR : 1 ≤ R.cells ∧ 6 ≤ R.slots ∧ names.length + 3 < R.frames ∧ 1 + (13 * (names.length + 1) + 42) ≤ R.locals)
    (hq : ∀ (t : State) (x : Nat), s.heap.size ≤ t.heap.size → (∀ q : Nat, q < s.heap.size → t.heap[q]? = s.heap[q]?) → s.WarmedH t.vm → wx_Ex X x t → Qc args s (.threw x) t) :
    W p l e R s m args below meth c s.heap [] 0 0 (wx_MQ below Qc args s free) (F0 m pc ls []) := by
  refine W.newc hexec hb hown hcl hins hini (g := F0 m pc ls []) rfl hd0 (by omega) (by omega) (fun cC kC f1 f2 f3 f4 => ?_)
  refine lv_dup hexec hb hd3 rfl ?_
  refine va_ldcS hexec hb hown hZ hd4 ?_
  intro T hT X0
  obtain ⟨U, g1, g2, g3, g4, g5, ce, g6, g7⟩ := X0.ctorThrowS hexec (htr e X0.admits) hown hcls hnames hat (fun x hx => by cases hx) f1 f2 (a := s.heap.size) (by rw [hT]; exact Array.getElem?_push_size) (Nat.le_refl _) (msg := .ref q) rfl
    (g := F0 m (pc + 6) ls [.ref q, .ref s.heap.size, .ref s.heap.size]) rfl hsize rfl rfl (rest := []) rfl (by rw [hb]; exact hd6) (by rw [hb]; exact hd9) (fun y hy => by rw [ht] at hy; cases hy) hR.2.2.1 (by simpa [Value.category, JFrame.monitorRoom] using hR.2.2.2) hlocks
  have hk : ∀ q : Nat, q < s.heap.size → U.heap[q]? = s.heap[q]? := fun q hlt => by
    have h1 : s.heap[q]? = some s.heap[q] := Array.getElem?_eq_getElem hlt
    have h2 := kept_of_same (keep := fun _ => True) g5 (fun _ h => by cases h) q _ trivial h1
    rw [h1]; exact h2
  have hz : s.heap.size ≤ U.heap.size := by
    have hlt : s.heap.size < U.heap.size := (Array.getElem?_eq_some_iff.mp g6).1
    omega
  refine ⟨U, g1, .threw s.heap.size, g2, g3, hq U _ hz hk g4 ⟨ce, g6, by rw [g7.vm]; rfl, by rw [g4.alike.findClass]; exact g7.cls⟩, [], ⟨g4, ?_⟩, fun _ h => by cases h⟩
  simpa [f4, wx_c] using g5
/-- the table's rows, in their order, lead an exception of class X to the handler h -/
def wx_Lands (s0 : State) (args : Array Value) (own X : String) (pc : Nat) (h : Nat) : List ExceptionTableEntry → Prop
  | [] => False
  | x :: t => (covers x pc = true ∧ x.catchType ≠ 0 ∧ x.handlerPc = h ∧ ∃ nm, (Cond.classLink own x.catchType nm).before args s0 = true ∧ (Cond.castable X nm).before args s0 = true) ∨
      (covers x pc = true ∧ x.catchType ≠ 0 ∧ (∃ nm, (Cond.classLink own x.catchType nm).before args s0 = true ∧ (Cond.not (.castable X nm)).before args s0 = true) ∧ wx_Lands s0 args own X pc h t) ∨
      (covers x pc = false ∧ wx_Lands s0 args own X pc h t)
theorem wx_row {e : Env} {S : State} {f : JFrame} {a : Addr} {Q : Handler → Pre} {E : CtlPost} {d : Bool} {acts : List Action} {x : ExceptionTableEntry} {t : List ExceptionTableEntry} {c : ClassId} {cell : Cell} (hx : covers x f.pc = true) (h0 : x.catchType ≠ 0)
    (hl : S.vm.ClassLinks e.platform f.method.cls x.catchType c) (hcell : S.heap[a]? = some cell) (hobj : ∀ k, cell.vm ≠ .statics k)
    (hk : ∃ k, S.vm.classes[cell.cls]? = some k) (hc : ∃ k, S.vm.classes[c]? = some k) :
    wp (findHandler.go f a (x :: t)) Q E e d acts S ↔ if S.vm.assignable cell.cls c = true then Q (.found x.handlerPc) d acts (S.setVm (S.vm.noted f.method.cls x.catchType (.cls c))) else wp (findHandler.go f a t) Q E e d acts (S.setVm (S.vm.noted f.method.cls x.catchType (.cls c))) := by
  simp only [covers] at hx
  obtain ⟨ha, ht⟩ := (resolveClass_links e.toSetting hl).op (op := VmOp.resolveClass f.method.cls x.catchType) rfl
  have hal : S.vm.Alike (S.vm.noted f.method.cls x.catchType (.cls c)) := (Vm.Alike.refl S.vm).noted _ _ _
  obtain ⟨k1, hk1⟩ := hk
  obtain ⟨k2, hk2⟩ := hc
  obtain ⟨k1', hk1', -⟩ := hal.2.2 _ _ hk1
  obtain ⟨k2', hk2', -⟩ := hal.2.2 _ _ hk2
  rw [← hal.assignable]
  cases hfit : (S.vm.noted f.method.cls x.catchType (.cls c)).assignable cell.cls c <;>
    simp [findHandler.go, hx, h0, ha, ht, hcell, hobj, hk1', hk2', hfit, VmOp.dirties, VmOp.acts]
theorem wx_seek {e : Env} (hpl : e.platform.magicAccessors = ({} : Platform).magicAccessors) {s0 : State} {args : Array Value} {own X : String} {f : JFrame} {a : Addr} {cell : Cell} {h : Nat} (hown : s0.vm.findClass own = some f.method.cls) (hX : s0.vm.findClass X = some cell.cls) (hobj : ∀ k, cell.vm ≠ .statics k) :
    ∀ (es : List ExceptionTableEntry) (S : State), wx_Lands s0 args own X f.pc h es → s0.WarmedH S.vm → S.heap[a]? = some cell →
      ∃ vm', s0.WarmedH vm' ∧ ∀ (Q : Handler → Pre) (E : CtlPost) (d : Bool) (acts : List Action), wp (findHandler.go f a es) Q E e d acts S ↔ Q (.found h) d acts (S.setVm vm') := by
  intro es
  induction es with
  | nil => intro S hl; exact absurd hl (by simp [wx_Lands])
  | cons x t ih =>
    intro S hl hW hcell
    obtain ⟨k0, hk0⟩ := Vm.classAt_of_findClass hX
    obtain ⟨k0', hk0', -⟩ := hW.alike.2.2 _ _ hk0
    rcases hl with ⟨hx, h0, hh, nm, hlk, hca⟩ | ⟨hx, h0, ⟨nm, hlk, hca⟩, hl⟩ | ⟨hx, hl⟩
    · obtain ⟨c', hc', hcl⟩ := Cond.classLink_spec hown hlk e.platform hpl
      obtain ⟨dk, _, _, kt, hd, _, _, _, _, hkt, _, hopen⟩ := hcl.here
      obtain ⟨kt', hkt', -⟩ := hW.alike.2.2 _ _ hkt
      obtain ⟨c3, c4, w1, w2, w3⟩ := Cond.castable_spec hca
      cases hX.symm.trans w1
      cases hc'.symm.trans w2
      have hfit : S.vm.assignable cell.cls c' = true := by rw [hW.alike.assignable]; exact w3
      refine ⟨_, hW.noted hd hopen (State.rightAt_cls hcl), fun Q E d acts => ?_⟩
      rw [wx_row hx h0 (hW.classLinks hcl) hcell hobj ⟨k0', hk0'⟩ ⟨kt', hkt'⟩, if_pos hfit, hh]
    · obtain ⟨c', hc', hcl⟩ := Cond.classLink_spec hown hlk e.platform hpl
      obtain ⟨dk, _, _, kt, hd, _, _, _, _, hkt, _, hopen⟩ := hcl.here
      obtain ⟨kt', hkt', -⟩ := hW.alike.2.2 _ _ hkt
      obtain ⟨c3, c4, w1, w2, w3⟩ := va_Nc.of hca
      cases hX.symm.trans w1
      cases hc'.symm.trans w2
      have hno : S.vm.assignable cell.cls c' = false := by rw [hW.alike.assignable]; exact w3
      have hW' := hW.noted hd hopen (State.rightAt_cls hcl)
      obtain ⟨vm', hV, hgo⟩ := ih (S.setVm (S.vm.noted f.method.cls x.catchType (.cls c'))) hl hW' hcell
      refine ⟨vm', hV, fun Q E d acts => ?_⟩
      rw [wx_row hx h0 (hW.classLinks hcl) hcell hobj ⟨k0', hk0'⟩ ⟨kt', hkt'⟩, if_neg (by rw [hno]; decide), hgo]
      exact Iff.rfl
    · obtain ⟨vm', hV, hgo⟩ := ih S hl hW hcell
      exact ⟨vm', hV, fun Q E d acts => by rw [W.findHandler_go_skip hx]; exact hgo Q E d acts⟩
theorem wx_step {e : Env} {s : State} {a : Addr} {f : JFrame} {r : List Frame} {pc : Nat} {vm' : Vm} (hfind : ∀ (Q : Handler → Pre) (E : CtlPost) (d : Bool) (acts : List Action), wp (findHandler f a) Q E e d acts s ↔ Q (.found pc) d acts (s.setVm vm')) :
    (stepThrowing e s a (.java f :: r)).Is ((s.setVm vm').setFrames (.java { f with pc := pc, stack := [.ref a] } :: r)) [] := by
  simp only [stepThrowing, searchFrame, vmDo]
  generalize hr : Sem.go _ e false [] s = res
  obtain ⟨as, rfl, ha⟩ := Sem.eq_ok_of hr (a := Handler.found pc) (s' := s.setVm vm') (acts' := []) (by simp [hfind _ _ _ _])
  exact ⟨rfl, ha⟩
/-- the exception is caught in the walked method -/
theorem wx_catch {own X : String} {x hp : Nat} {es : List ExceptionTableEntry} (hown : s.vm.findClass own = some m.cls) (hes : c.exceptionTable.toList = es) (hex : ∃ cell : Cell, H[x]? = some cell ∧ cell.vm.isStatics = false ∧ s.vm.findClass X = some cell.cls) (hl : wx_Lands s args own X pc hp es)
    (k : W p l e R s m args below meth c H locs cells slots Q (F0 m hp ls [.ref x])) : wx_Th p l e R s m args below meth c H locs cells slots Q (F0 m pc ls rest) x := by
  obtain ⟨cell, h1, h2, h3⟩ := hex
  intro T hT X0
  subst hT
  have hpl : e.platform.magicAccessors = ({} : Platform).magicAccessors := by rw [X0.admits.platform]
  obtain ⟨vm', hW', hgo⟩ := wx_seek (f := F0 m pc ls rest) (a := x) hpl hown h3 (VmData.ne_statics_of h2) es ((T.setTop (F0 m pc ls rest)).pushFrame (.throwing x)) hl X0.warmed h1
  obtain ⟨t, a1, b1⟩ := k (T.setVm vm') rfl (X0.noted hW')
  refine ⟨t, ?_, b1⟩
  have hAt : At T (F0 m pc ls rest).method c below := X0.here
  obtain ⟨hg1, hg2⟩ := hAt.throwing (g := F0 m pc ls rest) x
  refine Steps.head hg1 hg2 ?_
  have hfind : ∀ (Q : Handler → Pre) (E : CtlPost) (d : Bool) (acts : List Action), wp (findHandler (F0 m pc ls rest) x) Q E e d acts ((T.setTop (F0 m pc ls rest)).pushFrame (.throwing x)) ↔ Q (.found hp) d acts (((T.setTop (F0 m pc ls rest)).pushFrame (.throwing x)).setVm vm') := fun Q E d acts => by
    rw [W.findHandler_eq (meth := meth) (code := c) X0.method' X0.code, hes]
    exact hgo Q E d acts
  rw [stepThread_throwing (frames_entered hAt.top _), (wx_step hfind).1]
  obtain ⟨g₀, hg⟩ := Option.isSome_iff_exists.mp hAt.top
  obtain ⟨r, hr⟩ := State.topJava?_eq_some.mp hg
  have hr' : (T.setVm vm').frames = .java g₀ :: r := hr
  rw [State.setTop_of_frames _ hr'] at a1
  have e1 : ∀ (u : State) (F G : List Frame), ((u.setFrames F).setVm vm').setFrames G = (u.setVm vm').setFrames G := fun u F G => by
    have h1 : (u.setFrames F).setVm vm' = (u.setVm vm').setFrames F := rfl
    rw [h1, State.setFrames_setFrames]
  rw [hr, List.tail_cons, State.pushFrame, e1, State.setTop_of_frames _ hr, e1]
  exact a1
end WX3
