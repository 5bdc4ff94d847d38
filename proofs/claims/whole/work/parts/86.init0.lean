/-! Constructors: new arrays of a known class, calls of constructors. -/
set_option maxRecDepth 100000 in
theorem mc_Obj : Cond.code Lib.objectInit ⟨#[0xb1]⟩ 1 none ∈ tb := tb_t (List.mem_of_getElem? (i := 22) (by rfl)) rfl
section WI
variable {p : Program} {l : Launch} {e : Env} {R : Room} {s : State} {m : MethodId} {args : Array Value} {below : List Frame} {meth : Method} {c : Code} {H : Heap} {locs : List Loc} {cells slots : Nat} {Q : State → Prop}
variable {cc : ByteArray} {pc : Nat} {ls : Array Slot} {rest : List Value} {D : va_G} {cl : List vw_C} {A : Nat → Prop} {tys : List (ClassId × FieldType)} {ws wc wr : va_W} {H0 : Heap}
variable {ρ σ : Type} {rv : ρ → Option Value} {post : ρ → σ → Prop} {wd : σ → va_W} {y : MethodName} {bytes : ByteArray} {maxL nL n index mc ms : Nat} {rm : Room} {own host : String} {As st0 : List Value} {b : Nat}
theorem wn_newa (hexec : p.tables.exec = Jvm.exec) (hb : c.code = cc) {atype : ArrayType} (harr : (Cond.arrayClass (newarray.typeOf atype)).before args s = true) {ty : FieldType} (hty : newarray.typeOf atype = ty) (hK : va_K D cl tys s) (hP : va_P D cl ws H) (hD : va_D A ws) (hS : va_S A H0 H locs) (hA : ∀ q, H0.size ≤ q → A q)
    {k : Nat} {cA0 : ClassId} (hk : tys[k]? = some (cA0, ty)) (hi : ∀ a b, va_RA s a ty → va_RA s b ty → a = b)
    {n : Int32} {N' : Nat} {a0 : vp_A} (ha : ∀ cA : ClassId, vp_cell cA a0 = arrV cA N' (fun _ => defaultValue ty)) (hn : ¬ n < 0) (hN : n.toNatClampNeg = N') (hbytes : N' * componentBytes ty ≤ 536870912) (hcells : cells + 1 ≤ R.cells) (hslots : slots + N' ≤ R.slots) (hdg : decode cc pc = .ok (.newarray atype, 2))
    (kk : ∀ (q : Nat) (H1 : Heap), va_P D cl (ws ++ [(q, .inl (cA0, a0))]) H1 → va_D A (ws ++ [(q, .inl (cA0, a0))]) → va_S A H0 H1 locs →
      W p l e R s m args below meth c H1 locs (cells + 1) (slots + N') Q (F0 m (pc + 2) ls (.ref q :: rest))) : W p l e R s m args below meth c H locs cells slots Q (F0 m pc ls (.int n :: rest)) := by
  refine va_newa hexec hb harr hty hK hP hD hS hA ha hn hN hbytes hcells hslots hdg (fun q cA H1 hK1 hP1 hD1 hS1 => ?_)
  have e : cA = cA0 := hi _ _ (hK1.2 tys.length (cA, ty) (by simp)).2 (hK.2 k _ hk).2
  subst e
  exact kk q H1 hP1 hD1 hS1
/-- a constructor -/
theorem wi_callI (S : CallFix p m c cc nL s args tb own) (hM : Met l y (Cond.code y bytes maxL none :: tb) rm (va_Pc (.ref b :: As) (wy_P D cl wc tys H.size)) (wy_Q rv post (wy_B D cl tys (va_A wc H.size) wd) (va_A wc H.size)) mc ms (va_A wc H.size)) (hc : Cond.code y bytes maxL none ∈ tb) (hini : Cond.initialized y.cls ∈ tb) (hlk : Cond.methodLink own index y ∈ tb) (hins : Cond.instanceMethod y ∈ tb) (hnm : y.name = "<init>") (hrc : rm.cells = mc) (hrs : rm.slots = ms)
    (hd : y.cls ≠ "java/lang/invoke/MethodHandle" ∧ y.cls ≠ "java/lang/invoke/VarHandle" ∧ (parseMethodDescriptor y.desc).map (fun d => d.parameters.length) = some n) (hRm : rm.frames + 1 ≤ R.frames ∧ 8 + (maxL + 11) + rm.locals ≤ R.locals)
    (hP : va_P D cl ws H) (hD : va_D A ws) (hS : va_S A H0 H locs) (hA : ∀ q, H0.size ≤ q → A q) (hK : va_K D cl tys s)
    (isC isR : List Nat) (hC : isC.map (fun i => ws[i]?) = wc.map some) (hR : isR.map (fun i => ws[i]?) = wr.map some) (hnd : va_nd isR = true) (hdis : ∀ i ∈ isR, i ∉ isC) (hPc : va_P D cl wc H) (hDc : va_D (fun _ => True) wc)
    (hn : As.length = n) (hsize : ls.size = nL) (hstack : st0 = As.reverse ++ .ref b :: rest) (hW : (rest.map fun v => v.category).sum ≤ 8) (hdg : decode cc pc = .ok (.invokespecial index, 3)) (hf : cells + mc ≤ R.cells ∧ slots + ms ≤ R.slots)
    (kk : ∀ (r : ρ) (u : σ) (H1 : Heap) (locs1 : List Loc), post r u → va_P D cl (wr ++ wd u) H1 → va_D A (wr ++ wd u) → va_S A H0 H1 locs1 → W p l e R s m args below meth c H1 locs1 (cells + mc) (slots + ms) Q (F0 m (pc + 3) ls ((rv r).toList ++ rest))) : W p l e R s m args below meth c H locs cells slots Q (F0 m pc ls st0) := by
  refine wy_call (va_runI S hM ⟨⟨hrc, hrs, hRm.1, hRm.2, pay_in S.2.2.2.2 (tb_cons hc), List.mem_cons_self, S.2.2.2.2 _ hc, S.2.2.2.2 _ hini, ⟨hd.1, hd.2.1⟩, fun sig h => ?_, S.2.2.2.2 _ hlk⟩, hnm, S.2.2.2.2 _ hins⟩ ⟨wy_blind, fun U hU hW => ⟨rfl, by rw [hU], by rw [hU]; exact hPc, va_K.moved hW.alike hK, hDc⟩⟩ rfl hn hsize hstack (lv_room hW) hdg hf) hP hD hS hA isC isR hC hR hnd hdis kk
  have h2 := hd.2.2
  rw [h] at h2
  exact (Option.some.inj h2).symm
/-- a constructor that is a nest mate's -/
theorem wi_callN (S : CallFix p m c cc nL s args tb own) (hM : Met l y (Cond.code y bytes maxL none :: tb) rm (va_Pc (.ref b :: As) (wy_P D cl wc tys H.size)) (wy_Q rv post (wy_B D cl tys (va_A wc H.size) wd) (va_A wc H.size)) mc ms (va_A wc H.size)) (hc : Cond.code y bytes maxL none ∈ tb) (hini : Cond.initialized y.cls ∈ tb) (hlk : va_Nw (.methodLinkNest own index y host) s) (hins : Cond.instanceMethod y ∈ tb) (hnm : y.name = "<init>") (hrc : rm.cells = mc) (hrs : rm.slots = ms)
    (hd : y.cls ≠ "java/lang/invoke/MethodHandle" ∧ y.cls ≠ "java/lang/invoke/VarHandle" ∧ (parseMethodDescriptor y.desc).map (fun d => d.parameters.length) = some n) (hRm : rm.frames + 1 ≤ R.frames ∧ 8 + (maxL + 11) + rm.locals ≤ R.locals)
    (hP : va_P D cl ws H) (hD : va_D A ws) (hS : va_S A H0 H locs) (hA : ∀ q, H0.size ≤ q → A q) (hK : va_K D cl tys s)
    (isC isR : List Nat) (hC : isC.map (fun i => ws[i]?) = wc.map some) (hR : isR.map (fun i => ws[i]?) = wr.map some) (hnd : va_nd isR = true) (hdis : ∀ i ∈ isR, i ∉ isC) (hPc : va_P D cl wc H) (hDc : va_D (fun _ => True) wc)
    (hn : As.length = n) (hsize : ls.size = nL) (hstack : st0 = As.reverse ++ .ref b :: rest) (hW : (rest.map fun v => v.category).sum ≤ 8) (hdg : decode cc pc = .ok (.invokespecial index, 3)) (hf : cells + mc ≤ R.cells ∧ slots + ms ≤ R.slots)
    (kk : ∀ (r : ρ) (u : σ) (H1 : Heap) (locs1 : List Loc), post r u → va_P D cl (wr ++ wd u) H1 → va_D A (wr ++ wd u) → va_S A H0 H1 locs1 → W p l e R s m args below meth c H1 locs1 (cells + mc) (slots + ms) Q (F0 m (pc + 3) ls ((rv r).toList ++ rest))) : W p l e R s m args below meth c H locs cells slots Q (F0 m pc ls st0) :=
  wy_call (va_runIN (host := host) S hM ⟨va_cnB n S.2.2.2.2 (tb_cons hc) rfl hrc hrs hlk (S.2.2.2.2 _ hini) hd hRm, hnm, S.2.2.2.2 _ hins⟩ ⟨wy_blind, fun U hU hW => ⟨rfl, by rw [hU], by rw [hU]; exact hPc, va_K.moved hW.alike hK, hDc⟩⟩ rfl hn hsize hstack (lv_room hW) hdg hf) hP hD hS hA isC isR hC hR hnd hdis kk
/-- the links between nest mates -/
def nsts (U : State) : Prop := va_Nw (.methodLinkNest R_LR 11 y_Lv_init R_LR) U ∧ va_Nw (.methodLinkNest R_LR 27 y_Nd_init R_LR) U
abbrev wn_P (D : va_G) (cl : List vw_C) (wc : va_W) (tys : List (ClassId × FieldType)) (sz : Nat) (U : State) : Prop := wy_P D cl wc tys sz U ∧ nsts U
theorem wn_blind {sz : Nat} : FrameBlind (va_Pc As (wn_P D cl wc tys sz)) := fun a U g mk q => ⟨q.1, (wy_blind (As := As) a U g mk ⟨q.1, q.2.1⟩).2, va_Nw.same (u := U) rfl rfl q.2.2.1, va_Nw.same (u := U) rfl rfl q.2.2.2⟩
/-- the class's own constructor -/
theorem wi_callL (S : CallFix p m c cc nL s args tb own) (hM : Met l y (Cond.code y bytes maxL none :: tb) rm (va_Pc (.ref b :: As) (wn_P D cl wc tys H.size)) (wy_Q rv post (wy_B D cl tys (va_A wc H.size) wd) (va_A wc H.size)) mc ms (va_A wc H.size)) (hc : Cond.code y bytes maxL none ∈ tb) (hini : Cond.initialized y.cls ∈ tb) (hlk : Cond.methodLink own index y ∈ tb) (hins : Cond.instanceMethod y ∈ tb) (hnm : y.name = "<init>") (hrc : rm.cells = mc) (hrs : rm.slots = ms)
    (hd : y.cls ≠ "java/lang/invoke/MethodHandle" ∧ y.cls ≠ "java/lang/invoke/VarHandle" ∧ (parseMethodDescriptor y.desc).map (fun d => d.parameters.length) = some n) (hRm : rm.frames + 1 ≤ R.frames ∧ 8 + (maxL + 11) + rm.locals ≤ R.locals)
    (hns : nsts s) (hP : va_P D cl ws H) (hD : va_D A ws) (hS : va_S A H0 H locs) (hA : ∀ q, H0.size ≤ q → A q) (hK : va_K D cl tys s)
    (isC isR : List Nat) (hC : isC.map (fun i => ws[i]?) = wc.map some) (hR : isR.map (fun i => ws[i]?) = wr.map some) (hnd : va_nd isR = true) (hdis : ∀ i ∈ isR, i ∉ isC) (hPc : va_P D cl wc H) (hDc : va_D (fun _ => True) wc)
    (hn : As.length = n) (hsize : ls.size = nL) (hstack : st0 = As.reverse ++ .ref b :: rest) (hW : (rest.map fun v => v.category).sum ≤ 8) (hdg : decode cc pc = .ok (.invokespecial index, 3)) (hf : cells + mc ≤ R.cells ∧ slots + ms ≤ R.slots)
    (kk : ∀ (r : ρ) (u : σ) (H1 : Heap) (locs1 : List Loc), post r u → va_P D cl (wr ++ wd u) H1 → va_D A (wr ++ wd u) → va_S A H0 H1 locs1 → W p l e R s m args below meth c H1 locs1 (cells + mc) (slots + ms) Q (F0 m (pc + 3) ls ((rv r).toList ++ rest))) : W p l e R s m args below meth c H locs cells slots Q (F0 m pc ls st0) := by
  refine wy_call (va_runI S hM ⟨⟨hrc, hrs, hRm.1, hRm.2, pay_in S.2.2.2.2 (tb_cons hc), List.mem_cons_self, S.2.2.2.2 _ hc, S.2.2.2.2 _ hini, ⟨hd.1, hd.2.1⟩, fun sig h => ?_, S.2.2.2.2 _ hlk⟩, hnm, S.2.2.2.2 _ hins⟩ ⟨wn_blind, fun U hU hW => ⟨rfl, ⟨by rw [hU], by rw [hU]; exact hPc, va_K.moved hW.alike hK, hDc⟩, va_Nw.warmM hW hns.1, va_Nw.warmM hW hns.2⟩⟩ rfl hn hsize hstack (lv_room hW) hdg hf) hP hD hS hA isC isR hC hR hnd hdis kk
  have h2 := hd.2.2
  rw [h] at h2
  exact (Option.some.inj h2).symm
end WI
/-- an array's class, out of the tables -/
theorem k_arr {ty : FieldType} {args : Array Value} {s : State} (h : (Cond.arrayClass ty).before args s = true) : ∃ cA : ClassId, ArrOfT s cA ty ∧ s.vm.findClass ("[" ++ ty.toString) = some cA := by
  obtain ⟨c, k, comp, h1, h2, h3⟩ := Cond.arrayClass_spec h
  exact ⟨c, fun n z => ⟨fun k h => (by cases h), k, h2, comp, h3⟩, h1⟩
