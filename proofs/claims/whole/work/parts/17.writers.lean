/-! Methods that write their world, and calls of them. -/
section WY
variable {p : Program} {l : Launch} {e : Env} {R : Room} {s : State} {m : MethodId} {args : Array Value} {below : List Frame} {meth : Method} {c : Code} {H : Heap} {locs : List Loc} {cells slots : Nat} {Q : State → Prop}
variable {cc : ByteArray} {pc : Nat} {ls : Array Slot} {rest : List Value} {D : va_G} {cl : List vw_C} {A : Nat → Prop} {tys : List (ClassId × FieldType)} {ws wc wr : va_W} {H0 : Heap}
abbrev wy_P (D : va_G) (cl : List vw_C) (wc : va_W) (tys : List (ClassId × FieldType)) (sz : Nat) (U : State) : Prop := U.heap.size = sz ∧ va_P D cl wc U.heap ∧ va_K D cl tys U ∧ va_D (fun _ => True) wc
abbrev wy_B {σ : Type} (D : va_G) (cl : List vw_C) (tys : List (ClassId × FieldType)) (A : Nat → Prop) (wd : σ → va_W) (u : σ) (t : State) : Prop := va_P D cl (wd u) t.heap ∧ va_K D cl tys t ∧ va_D A (wd u)
def wy_Q {ρ σ : Type} (rv : ρ → Option Value) (post : ρ → σ → Prop) (B : σ → State → Prop) (A : Nat → Prop) : Array Value → State → Outcome → State → Prop := fun _ st oc t => (∃ (r : ρ) (u : σ), oc = .returned (rv r) ∧ post r u ∧ B u t) ∧ va_F A st t
theorem wy_blind {As : List Value} {sz : Nat} : FrameBlind (va_Pc As (wy_P D cl wc tys sz)) := fun a U g mk q => ⟨q.1, q.2.1, q.2.2.1, va_K.moved (u := U) (U := U.calling g mk a) (Vm.Alike.refl U.vm) q.2.2.2.1, q.2.2.2.2⟩
variable {ρ σ : Type} {rv : ρ → Option Value} {post : ρ → σ → Prop} {pt : String → σ → Prop} {wd : σ → va_W} {y : MethodName} {bytes : ByteArray} {maxL nL n index mc ms : Nat} {ret : Option FieldType} {rm : Room} {own C : String} {As st0 : List Value} {b : Nat}
theorem wy_call {a : Array Value} (hr : va_Run p l e R s m args below meth c H locs cells slots mc ms (F0 m pc ls st0) rest (wy_Q rv post (wy_B D cl tys (va_A wc H.size) wd) (va_A wc H.size) a) (va_A wc H.size)) (hP : va_P D cl ws H) (hD : va_D A ws) (hS : va_S A H0 H locs) (hA : ∀ q, H0.size ≤ q → A q)
    (isC isR : List Nat) (hC : isC.map (fun i => ws[i]?) = wc.map some) (hR : isR.map (fun i => ws[i]?) = wr.map some) (hn : va_nd isR = true) (hdis : ∀ i ∈ isR, i ∉ isC)
    (kk : ∀ (r : ρ) (u : σ) (H1 : Heap) (locs1 : List Loc), post r u → va_P D cl (wr ++ wd u) H1 → va_D A (wr ++ wd u) → va_S A H0 H1 locs1 → W p l e R s m args below meth c H1 locs1 (cells + mc) (slots + ms) Q (F0 m (pc + 3) ls ((rv r).toList ++ rest))) : W p l e R s m args below meth c H locs cells slots Q (F0 m pc ls st0) := by
  have hF := va_free (wc := wc) hD hS hA isC hC
  intro T hT X
  obtain ⟨v, st₀, t, T', L, h0, X', hL, e1, e2, ⟨⟨r, u, hv, hp, hP1, hK1, hD1⟩, hz, hk⟩, st⟩ := hr T hT X
  cases hv
  rw [h0] at hz hk
  have hk' : ∀ q : Nat, q < H.size → ¬ va_A wc H.size q → T'.heap[q]? = H[q]? := fun q h1 h2 => by rw [e1]; exact hk q h1 h2
  obtain ⟨hPj, hDj⟩ := va_join (wr := wr) (w1 := wd u) hP hD isC isR hC hR hn hdis hk' hF (by rw [e1]; exact hP1) hD1
  obtain ⟨t2, a1, b1⟩ := kk r u T'.heap (locs ++ L) hp hPj hDj
    ⟨Nat.le_trans hS.1 (by rw [e1]; exact hz), fun q h1 h2 => by rw [hk' q (Nat.lt_of_lt_of_le h1 hS.1) (fun z => h2 (hF q z))]; exact hS.2.1 q h1 h2, fun q hq => by
      rcases List.mem_append.mp hq with h | h
      · exact hS.2.2 q h
      · exact hF _ (hL q h)⟩ T' rfl X'
  exact ⟨t2, st t2 a1, b1⟩
theorem wy_callV (S : CallFix p m c cc nL s args tb own) (hM : Met l y (Cond.code y bytes maxL ret :: tb) rm (va_Pc (.ref b :: As) (wy_P D cl wc tys H.size)) (wy_Q rv post (wy_B D cl tys (va_A wc H.size) wd) (va_A wc H.size)) mc ms (va_A wc H.size)) (hG : GoodIn tb (wsV own index C y (Cond.code y bytes maxL ret :: tb))) (hrc : rm.cells = mc) (hrs : rm.slots = ms)
    (hd : y.cls = C ∧ y.cls ≠ "java/lang/invoke/MethodHandle" ∧ y.cls ≠ "java/lang/invoke/VarHandle" ∧ (parseMethodDescriptor y.desc).map (fun d => d.parameters.length) = some n) (hRm : rm.frames + 1 ≤ R.frames ∧ 8 + (maxL + 11) + rm.locals ≤ R.locals)
    (hP : va_P D cl ws H) (hD : va_D A ws) (hS : va_S A H0 H locs) (hA : ∀ q, H0.size ≤ q → A q) (hK : va_K D cl tys s)
    (isC isR : List Nat) (hC : isC.map (fun i => ws[i]?) = wc.map some) (hR : isR.map (fun i => ws[i]?) = wr.map some) (hnd : va_nd isR = true) (hdis : ∀ i ∈ isR, i ∉ isC) (hPc : va_P D cl wc H) (hDc : va_D (fun _ => True) wc)
    {q : vw_C} {q0 ci : Nat} {fs : List Value} (hc : cl[ci]? = some q) (he : wc[q0]? = some (b, .inr (ci, fs))) (hCq : q.1 = C)
    (hn : As.length = n) (hsize : ls.size = nL) (hstack : st0 = As.reverse ++ .ref b :: rest) (hW : (rest.map fun v => v.category).sum ≤ 8) (hdg : decode cc pc = .ok (.invokevirtual index, 3)) (hf : cells + mc ≤ R.cells ∧ slots + ms ≤ R.slots)
    (kk : ∀ (r : ρ) (u : σ) (H1 : Heap) (locs1 : List Loc), post r u → va_P D cl (wr ++ wd u) H1 → va_D A (wr ++ wd u) → va_S A H0 H1 locs1 → W p l e R s m args below meth c H1 locs1 (cells + mc) (slots + ms) Q (F0 m (pc + 3) ls ((rv r).toList ++ rest))) : W p l e R s m args below meth c H locs cells slots Q (F0 m pc ls st0) :=
  wy_call (va_runV S hM (cwV n S.2.2.2.2 hG rfl hrc hrs hd hRm) ⟨wy_blind, by rw [← hCq]; exact va_recv hK hPc hc he, fun U hU hW => ⟨rfl, by rw [hU], by rw [hU]; exact hPc, va_K.moved hW.alike hK, hDc⟩⟩ rfl hn hsize hstack (lv_room hW) hdg hf) hP hD hS hA isC isR hC hR hnd hdis kk
/-- a call with either end, behind the frame rule -/
theorem wz_call {a : Array Value} (hr : wx_Run p l e R s m args below meth c H locs cells slots (F0 m pc ls st0) rest (wx_Q rv post pt (wy_B D cl tys (va_A wc H.size) wd) (va_A wc H.size) a) (va_A wc H.size)) (hP : va_P D cl ws H) (hD : va_D A ws) (hS : va_S A H0 H locs) (hA : ∀ q, H0.size ≤ q → A q)
    (isC isR : List Nat) (hC : isC.map (fun i => ws[i]?) = wc.map some) (hR : isR.map (fun i => ws[i]?) = wr.map some) (hn : va_nd isR = true) (hdis : ∀ i ∈ isR, i ∉ isC)
    (kk : ∀ (r : ρ) (u : σ) (H1 : Heap) (locs1 : List Loc), post r u → va_P D cl (wr ++ wd u) H1 → va_D A (wr ++ wd u) → va_S A H0 H1 locs1 → W p l e R s m args below meth c H1 locs1 cells slots Q (F0 m (pc + 3) ls ((rv r).toList ++ rest)))
    (kt : ∀ (x : Nat) (X : String) (u : σ) (H1 : Heap) (locs1 : List Loc), pt X u → (∃ cell : Cell, H1[x]? = some cell ∧ cell.vm.isStatics = false ∧ s.vm.findClass X = some cell.cls) → va_P D cl (wr ++ wd u) H1 → va_D A (wr ++ wd u) → va_S A H0 H1 locs1 → wx_Th p l e R s m args below meth c H1 locs1 (cells + 1) (slots + 6) Q (F0 m pc ls rest) x) : W p l e R s m args below meth c H locs cells slots Q (F0 m pc ls st0) := by
  have hF := va_free (wc := wc) hD hS hA isC hC
  refine wx_call hr hS (fun q _ h => hF q h) hF (fun r u t H1 locs1 ht hvm hp hB hz hk hS1 => ?_) (fun x X u t H1 locs1 ht hvm hp hB hex hz hk hS1 => ?_)
  · obtain ⟨hP1, hK1, hD1⟩ := hB
    obtain ⟨hPj, hDj⟩ := va_join (wr := wr) (w1 := wd u) hP hD isC isR hC hR hn hdis hk hF (by rw [← ht]; exact hP1) hD1
    exact kk r u H1 locs1 hp hPj hDj hS1
  · obtain ⟨hP1, hK1, hD1⟩ := hB
    obtain ⟨hPj, hDj⟩ := va_join (wr := wr) (w1 := wd u) hP hD isC isR hC hR hn hdis hk hF (by rw [← ht]; exact hP1) hD1
    obtain ⟨cell, g1, g2, g3⟩ := hex
    exact kt x X u H1 locs1 hp ⟨cell, by rw [← ht]; exact g1, g2, by rw [← hvm.findClass]; exact g3⟩ hPj hDj hS1
end WY
