/-! The law's helpers: methods with handlers, and calls of them. -/
theorem nc_use {C T : String} {args : Array Value} {U : State} (h : va_Nc C T U) : (Cond.not (.castable C T)).before args U = true := by
  obtain ⟨c, t, h1, h2, h3⟩ := h
  simp [Cond.before, Cond.holds, Cond.value, h1, h2, h3]
/-- none of the three exceptions is one of another -/
def ncs (U : State) : Prop := (va_Nc "java/lang/IllegalArgumentException" "java/lang/IndexOutOfBoundsException" U ∧ va_Nc "java/lang/IllegalStateException" "java/lang/IndexOutOfBoundsException" U) ∧ (va_Nc "java/lang/IllegalStateException" "java/lang/IllegalArgumentException" U)
theorem ncs.moved {u U : State} (hvm : u.vm.Alike U.vm) (h : ncs u) : ncs U := ⟨⟨h.1.1.moved hvm, h.1.2.moved hvm⟩, h.2.moved hvm⟩
abbrev wh_P (D : va_G) (cl : List vw_C) (wc : va_W) (tys : List (ClassId × FieldType)) (sz : Nat) (U : State) : Prop := wz_P D cl wc tys sz U ∧ ncs U
section WH
variable {p : Program} {l : Launch} {e : Env} {R : Room} {s : State} {m : MethodId} {args : Array Value} {below : List Frame} {meth : Method} {c : Code} {H : Heap} {locs : List Loc} {cells slots : Nat} {Q : State → Prop}
variable {cc : ByteArray} {pc : Nat} {ls : Array Slot} {rest : List Value} {D : va_G} {cl : List vw_C} {A : Nat → Prop} {tys : List (ClassId × FieldType)} {ws wc wr : va_W}
variable {ρ σ : Type} {rv : ρ → Option Value} {post : ρ → σ → Prop} {wd : σ → va_W} {y : MethodName} {bytes : ByteArray} {maxL nL n index mc ms : Nat} {ret : Option FieldType} {rm : Room} {own : String} {As st0 : List Value} {hh : List (Nat × Nat × Nat × Nat)}
theorem wh_blind {sz : Nat} : FrameBlind (va_Pc As (wh_P D cl wc tys sz)) := fun a U g mk q => ⟨q.1, (wz_blind (As := As) a U g mk ⟨q.1, q.2.1⟩).2, ncs.moved (u := U) (U := U.calling g mk a) (Vm.Alike.refl U.vm) q.2.2⟩
theorem wl_runS {Pc : Array Value → State → Prop} {Qc : Array Value → State → Outcome → State → Prop} {free : Addr → Prop} {ws : List Cond} {Ts : List Cond} {g : JFrame} (S : CallFix p m c cc nL s args Ts own) (hM : Met l y ws rm Pc Qc mc ms free) (cw : wx_CS R s args own index y (Cond.codeWith y bytes maxL ret hh) maxL ws rm mc ms n) (hp : PreS s H Pc As)
    (hg : g.method = m) (hn : As.length = n) (hsize : g.locals.size = nL) (hstack : g.stack = As.reverse ++ rest) (hW : 2 * g.monitorRoom + (rest.map fun v => v.category).sum ≤ 8) (hdg : decode cc g.pc = .ok (.invokestatic index, 3)) (hf : cells + mc ≤ R.cells ∧ slots + ms ≤ R.slots) :
    va_Run p l e R s m args below meth c H locs cells slots mc ms g rest (Qc As.toArray) (free) := by
  obtain ⟨hrc, hrs, hfr, hlo, hws, hcw, hcm, hcode, hini, hy, hlen, hl, hstat⟩ := cw
  obtain ⟨hx, hb, hml, ho, -⟩ := S
  obtain ⟨hbl, hPc⟩ := hp
  have hK : Back l R p e below s args y 3 8 (PreOf R mc ms Pc) (PostOf Qc mc ms free) := va_backW (hh := hh) hM hbl hrc hrs hfr hlo hws hcm (fun a' U hW => word_at hW (Or.inl (by first | rfl | simp [Cond.onTables, Cond.keeps, Cond.steady])) hini)
  intro T hT X
  obtain ⟨mk, methM, cM, hnamed, hmethM, -, -, hsigM⟩ := hcw.spec hcode
  have hstatic : methM.isStatic = true := Cond.static_spec hnamed hmethM hstat
  obtain ⟨kP, hkP, -⟩ := className_of_methodNamed hnamed
  have hinitP : kP.init = .initialized := Cond.initialized_spec (findClass_of_methodNamed hnamed) hkP hini
  obtain ⟨vm₁, X₁, hstep₁⟩ := X.invokestatic hx ho hl hnamed hmethM hstatic hkP hinitP hy (g := g) hg (argsL := As) (rest := rest) (hn.trans (hlen _ hsigM)) hstack (by rw [hb]; exact hdg)
  obtain ⟨v, ⟨U', l2, c2, s2⟩, X', ⟨g', mk', t, L, e1, e2, hq, h1, hL, h2, h3⟩, hsteps⟩ := hK m meth c ⟨T.setVm vm₁, locs, cells, slots⟩ { g with stack := rest } (.invokestatic index) mk As.toArray X₁ hg (hsize.trans hml.symm) (by rw [hb]; exact hdg) hW (X₁.named hnamed) ⟨hf.1, hf.2, hPc (T.setVm vm₁) hT X₁.warmed⟩
  dsimp only [Pt.U, Pt.locs, Pt.cells, Pt.slots] at X' e1 e2 h1 h2 h3 hsteps
  subst h1; subst h2; subst h3
  exact ⟨v, (T.setVm vm₁).calling g' mk' As.toArray, t, U', L, hT, X', hL, e1, e2, hq, fun target h => hstep₁ _ fun acts => by rw [doInvoke_state]; exact hsteps.trans h⟩
theorem wl_callS (S : CallFix p m c cc nL s args tb own) (hM : Met l y (Cond.codeWith y bytes maxL ret hh :: tb) rm (va_Pc As (wh_P D cl wc tys H.size)) (wy_Q rv post (wy_B D cl tys (va_A wc H.size) wd) (va_A wc H.size)) mc ms (va_A wc H.size)) (hG : GoodIn tb (wsS own index y (Cond.codeWith y bytes maxL ret hh :: tb))) (hrc : rm.cells = mc) (hrs : rm.slots = ms)
    (hd : y.cls = own ∧ y.cls ≠ "java/lang/invoke/MethodHandle" ∧ y.cls ≠ "java/lang/invoke/VarHandle" ∧ (parseMethodDescriptor y.desc).map (fun d => d.parameters.length) = some n) (hRm : rm.frames + 1 ≤ R.frames ∧ 8 + (maxL + 11) + rm.locals ≤ R.locals)
    (hx : thx A s s.heap) (hs : strs s) (hnc : ncs s) (hP : va_P D cl ws H) (hD : va_D A ws) (hS : va_S A s.heap H locs) (hA : ∀ q, s.heap.size ≤ q → A q) (hK : va_K D cl tys s)
    (isC isR : List Nat) (hC : isC.map (fun i => ws[i]?) = wc.map some) (hR : isR.map (fun i => ws[i]?) = wr.map some) (hnd : va_nd isR = true) (hdis : ∀ i ∈ isR, i ∉ isC) (hPc : va_P D cl wc H) (hDc : va_D (fun _ => True) wc)
    (hn : As.length = n) (hsize : ls.size = nL) (hstack : st0 = As.reverse ++ rest) (hW : (rest.map fun v => v.category).sum ≤ 8) (hdg : decode cc pc = .ok (.invokestatic index, 3)) (hf : cells + mc ≤ R.cells ∧ slots + ms ≤ R.slots)
    (kk : ∀ (r : ρ) (u : σ) (H1 : Heap) (locs1 : List Loc), post r u → va_P D cl (wr ++ wd u) H1 → va_D A (wr ++ wd u) → va_S A s.heap H1 locs1 → W p l e R s m args below meth c H1 locs1 (cells + mc) (slots + ms) Q (F0 m (pc + 3) ls ((rv r).toList ++ rest))) : W p l e R s m args below meth c H locs cells slots Q (F0 m pc ls st0) :=
  wy_call (wl_runS S hM (wx_cs n (Or.inr ⟨bytes, ret, hh, rfl⟩) S.2.2.2.2 hG rfl hrc hrs hd hRm) ⟨wh_blind, fun U hU hW => ⟨rfl, wz_start hx hs hS (va_free (wc := wc) hD hS hA isC hC) hPc hK hDc U hU hW, ncs.moved hW.alike hnc⟩⟩ rfl hn hsize hstack (lv_room hW) hdg hf) hP hD hS hA isC isR hC hR hnd hdis kk
end WH
