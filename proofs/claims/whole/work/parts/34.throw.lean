/-! exceptions: a check that throws, a caller that lets it go on, a caller that catches it -/
theorem v_find {e : Env} {u : State} {g : JFrame} {q : Addr} {meth : Method} {c : Code} {x : ExceptionTableEntry} {k : ClassId} {ce : Cell} (hm : u.vm.method? g.method = some meth) (hc : meth.code = some c) (ht : c.exceptionTable.toList = [x]) (hx : covers x g.pc = true) (h0 : x.catchType ≠ 0) (hl : u.vm.ClassLinks e.platform g.method.cls x.catchType k) (hcell : u.heap[q]? = some ce) (hobj : ∀ j, ce.vm ≠ .statics j) (h1 : ∃ k1, u.vm.classes[ce.cls]? = some k1) (h2 : ∃ k2, u.vm.classes[k]? = some k2) (hfit : u.vm.assignable ce.cls k = true) (Q : Handler → Pre) (E : CtlPost) (d : Bool) (acts : List Action) : wp (findHandler g q) Q E e d acts u ↔ Q (.found x.handlerPc) d acts (u.setVm (u.vm.noted g.method.cls x.catchType (.cls k))) := by
  rw [Jvm.W.findHandler_eq hm hc, ht]
  have al : u.vm.Alike (u.vm.noted g.method.cls x.catchType (.cls k)) := (Vm.Alike.refl u.vm).noted _ _ _
  obtain ⟨r1, r2⟩ := (resolveClass_links e.toSetting hl).op (op := VmOp.resolveClass g.method.cls x.catchType) rfl
  obtain ⟨k1, h1⟩ := h1
  obtain ⟨k2, h2⟩ := h2
  obtain ⟨k1', h1', -⟩ := al.2.2 _ _ h1
  obtain ⟨k2', h2', -⟩ := al.2.2 _ _ h2
  rw [← al.assignable] at hfit
  simp only [covers] at hx
  simp [findHandler.go, hx, h0, r1, r2, hcell, hobj, h1', h2', hfit, VmOp.dirties, VmOp.acts]
section THR
variable {p : Program} {l : Launch} {e : Env} {R : Room} {s : State} {m : MethodId} {args : Array Value} {below : List Frame} {meth : Method} {c : Code} {H : Heap} {locs : List Loc} {cells slots : Nat} {Q : State → Prop} {cc : ByteArray} {pc : Nat} {ls : Array Slot} {rest st0 : List Value} {D : va_G} {cy : Nat → ClassId} {B : Nat} {S : PS} {Ts ws ws2 : List Cond} {own : String} {H0 : Heap} {s0 : State} {y : MethodName} {rm : Room} {maxL mc ms mc2 ms2 nL n index : Nat} {ret : Option FieldType} {bytes : ByteArray} {b : Nat} {As : List Value} {Cn : String}
/-- thrown over a frame whose one handler takes it -/
theorem v_catch {name E : String} {ce : Cell} {q : Addr} {x : ExceptionTableEntry} (hown : s.vm.findClass own = some m.cls) (ht : c.exceptionTable.toList = [x]) (hx : covers x pc = true) (h0 : x.catchType ≠ 0) (hlink : (Cond.classLink own x.catchType name).before args s = true) (hcast : (Cond.castable E name).before args s = true) (hcell : H[q]? = some ce) (hv : ce.vm = .none) (hcl : s.vm.findClass E = some ce.cls)
    (kk : W p l e R s m args below meth c H locs cells slots Q (F0 m x.handlerPc ls [.ref q])) : vx_W p l e R s m args below meth c H locs cells slots Q (F0 m pc ls rest) q := by
  intro T hT X
  have hpl : e.platform.magicAccessors = ({} : Platform).magicAccessors := by rw [X.admits.platform]
  obtain ⟨c3, c4, hc3, hc4, hasg⟩ := Cond.castable_spec hcast
  cases Option.some.inj (hc3.symm.trans hcl)
  obtain ⟨c5, hc5, hl5⟩ := Cond.classLink_spec hown hlink e.platform hpl
  cases Option.some.inj (hc4.symm.trans hc5)
  obtain ⟨dk, _, _, kt, hd, _, _, _, _, hkt, _, hopen⟩ := hl5.here
  have al := X.warmed.alike
  obtain ⟨kt2, hkt2, -⟩ := al.2.2 _ _ hkt
  have hfit : T.vm.assignable ce.cls c4 = true := by rw [al.assignable]; exact hasg
  obtain ⟨t, a1, b1⟩ := kk (T.setVm (T.vm.noted m.cls x.catchType (.cls c4))) hT (X.noted (X.warmed.noted hd hopen (State.rightAt_cls hl5)))
  refine ⟨t, ?_, b1⟩
  have hfind := v_find (e := e) (u := (T.setTop (F0 m pc ls rest)).pushFrame (.throwing q)) (g := F0 m pc ls rest) (q := q) (meth := meth) (c := c) (x := x) (k := c4) (ce := ce) X.method' X.code ht hx h0 (X.warmed.classLinks hl5) (by show T.heap[q]? = some ce; rw [hT]; exact hcell) (fun j => by rw [hv]; simp) (Vm.classAt_of_assignable hfit ⟨kt2, hkt2⟩) ⟨kt2, hkt2⟩ hfit
  obtain ⟨hgo, hw⟩ := At.throwing (g := F0 m pc ls rest) X.here q
  refine Steps.head hgo hw ?_
  rw [stepThread_throwing (frames_entered X.here.top _)]
  have hIs : ∀ r : List Frame, (stepThrowing e ((T.setTop (F0 m pc ls rest)).pushFrame (.throwing q)) q (.java (F0 m pc ls rest) :: r)).Is ((((T.setTop (F0 m pc ls rest)).pushFrame (.throwing q)).setVm (T.vm.noted m.cls x.catchType (.cls c4))).setFrames (.java { F0 m pc ls rest with pc := x.handlerPc, stack := [.ref q] } :: r)) [] := by
    intro r
    simp only [stepThrowing, searchFrame, vmDo]
    generalize hr : Sem.go _ e false [] _ = res
    obtain ⟨as, rfl, ha⟩ := Sem.eq_ok_of hr (a := Handler.found x.handlerPc) (s' := ((T.setTop (F0 m pc ls rest)).pushFrame (.throwing q)).setVm (T.vm.noted m.cls x.catchType (.cls c4))) (acts' := []) (by simp [hfind _ _ _ _]; rfl)
    exact ⟨rfl, ha⟩
  rw [(hIs _).1]
  obtain ⟨g₀, hg⟩ := Option.isSome_iff_exists.mp X.here.top
  obtain ⟨r, hr⟩ := State.topJava?_eq_some.mp hg
  have hr' : (T.setVm (T.vm.noted m.cls x.catchType (.cls c4))).frames = .java g₀ :: r := hr
  rw [State.setTop_of_frames _ hr'] at a1
  have hst : ∀ (U : State) (v : Vm) (F1 F2 F3 : List Frame), (((U.setFrames F1).setFrames F2).setVm v).setFrames F3 = (U.setVm v).setFrames F3 := by
    intro U v F1 F2 F3
    rw [State.setFrames_setFrames]
    exact State.setFrames_setFrames (U.setVm v) F2 F3
  rw [hr, List.tail_cons, State.setTop_of_frames _ hr, State.pushFrame, hst]
  exact a1
abbrev IAE : String := "java/lang/IllegalArgumentException"
/-- what a throw needs of the start -/
def EnvX (B : Nat) (s0 : State) : Prop := (∃ sa, vk_R RX10 199 "a number is none of those that the document tells" sa s0) ∧ (∃ sa, vk_R RX10 194 "there is no such message" sa s0) ∧ vx_Zq Bundle.tN "UNASSIGNED_STACK" Bundle.steD (Aw B) s0 s0.heap ∧ vx_Zq Bundle.tN "SUPPRESSED_SENTINEL" Bundle.listD (Aw B) s0 s0.heap ∧ va_Nw (.castable IAE IAE) s0 ∧ va_Nw (.declares (Bundle.initS "java/lang/RuntimeException")) s0 ∧ va_Nw (.declares (Bundle.initS "java/lang/Exception")) s0 ∧ va_Nw (.declares (Bundle.initS Bundle.tN)) s0
theorem EnvX.c0 {U : State} {A : Array Value} (h : EnvX B s0) (hE : EnvW s0 B U U.heap) : (Cond.castable IAE IAE).before A U = true := va_Nw.use (A := A) rfl (castW hE h.2.2.2.2.1)
theorem EnvX.d1 {U : State} {A : Array Value} (h : EnvX B s0) (hE : EnvW s0 B U U.heap) : (Cond.declares (Bundle.initS "java/lang/RuntimeException")).before A U = true := va_Nw.use (A := A) rfl (va_Nw.warmD hE.2.2 h.2.2.2.2.2.1)
theorem EnvX.d2 {U : State} {A : Array Value} (h : EnvX B s0) (hE : EnvW s0 B U U.heap) : (Cond.declares (Bundle.initS "java/lang/Exception")).before A U = true := va_Nw.use (A := A) rfl (va_Nw.warmD hE.2.2 h.2.2.2.2.2.2.1)
theorem EnvX.d3 {U : State} {A : Array Value} (h : EnvX B s0) (hE : EnvW s0 B U U.heap) : (Cond.declares (Bundle.initS Bundle.tN)).before A U = true := va_Nw.use (A := A) rfl (va_Nw.warmD hE.2.2 h.2.2.2.2.2.2.2)
theorem EnvX.u {U : State} (h : EnvX B s0) (hE : EnvW s0 B U U.heap) : vx_Zq Bundle.tN "UNASSIGNED_STACK" Bundle.steD (Aw B) U U.heap := (h.2.2.1.moved hE.1).kept (fun a _ hn => hE.2.1 a (Nat.not_le.mp hn))
theorem EnvX.n0 {U : State} (h : EnvX B s0) (hE : EnvW s0 B U U.heap) : vx_Zq Bundle.tN "SUPPRESSED_SENTINEL" Bundle.listD (Aw B) U U.heap := (h.2.2.2.1.moved hE.1).kept (fun a _ hn => hE.2.1 a (Nat.not_le.mp hn))
theorem EnvX.s1 {U : State} (h : EnvX B s0) (hE : EnvW s0 B U U.heap) : ∃ sa, vk_R RX10 199 "a number is none of those that the document tells" sa U := h.1.elim (fun sa z => ⟨sa, vk_R.warm hE.2.2 z⟩)
theorem EnvX.s2 {U : State} (h : EnvX B s0) (hE : EnvW s0 B U U.heap) : ∃ sa, vk_R RX10 194 "there is no such message" sa U := h.2.1.elim (fun sa z => ⟨sa, vk_R.warm hE.2.2 z⟩)
abbrev XB (D : va_G) (cy : Nat → ClassId) (B : Nat) : String → PS → State → Prop := fun E u t => E = IAE ∧ B ≤ t.heap.size ∧ PW D cy B u t.heap
abbrev XCx (D : va_G) (cy : Nat → ClassId) (B : Nat) (S : PS) : String → State → State → Prop := vx_X (fun u : PS => u = S) (XB D cy B) (Aw B)
abbrev XQ (D : va_G) (cy : Nat → ClassId) (B : Nat) (s0 : State) : Array Value → State → Outcome → State → Prop := va_Qv (fun _ : PS => False) (PreW D cy B s0) (Aw B)
/-- a method that throws: the heap shows what it showed -/
abbrev KX (l : Launch) (y : MethodName) (ws : List Cond) (rm : Room) (D : va_G) (cy : Nat → ClassId) (B : Nat) (s0 : State) (av : List Value) (S : PS) (mc ms : Nat) : Prop := vx_Met l y ws rm (va_Pc av (PreW D cy B s0 S)) (XQ D cy B s0) (XCx D cy B S) mc ms (Aw B)
theorem PW.grow {H1 : Heap} (hW : PW D cy B S H) (h : ∀ q : Nat, q < H.size → H1[q]? = H[q]?) : PW D cy B S H1 := ⟨hW.1.kept (fun k q hk => h q.1 (vx_lt hW.1 hk)), hW.2⟩
theorem k_bodyX {av : List Value} (ho : y.cls = own) (hy : plainName y.cls = true) (hw : ws = Cond.code y cc maxL ret :: ws2) (hav : (lg_sl av).length ≤ maxL)
    (body : ∀ (p : Program) (e : Env) (s : State) (m : MethodId) (below : List Frame) (meth : Method) (c : Code), Cx p s m av.toArray c cc ws own D cy B s0 → c.maxLocals = maxL → (∀ x ∈ c.exceptionTable.toList, False) → meth.locks = false → B ≤ s.heap.size → PW D cy B S s.heap → ∀ ls, lv_has ls maxL (lv_args 0 av) → W p l e rm s m av.toArray below meth c s.heap [] 0 0 (vx_MQ below (XQ D cy B s0) (XCx D cy B S) av.toArray s mc ms (Aw B)) (F0 m 0 ls [])) : KX l y ws rm D cy B s0 av S mc ms := by
  subst ho
  refine vx_ofW hy hw ?_
  intro p e s m args below meth c s₁ BB hml htb hv
  obtain ⟨rfl, hB, hW, hK, hEn⟩ := hv
  have hts := atoms_spec (ws := ws) BB.pre
  have hl := lv_entry av (n := maxL) hav
  rw [lg_entry_eq]
  exact body p e s m below meth c ⟨BB.exec, BB.bytes, hts, findClass_of_methodNamed BB.named, hK, hEn⟩ hml htb BB.notSynchronized hB hW _ hl
/-- a callee's exception goes on to the caller's caller -/
theorem k_callSX (C : Cx p s m args c cc Ts own D cy B s0) (hml : c.maxLocals = nL) (hM : KX l y ws rm D cy B s0 As S mc ms) (cw : CallB R s args own index y bytes maxL ret ws rm mc ms n ∧ (Cond.static y).before args s = true) (hW : PW D cy B S H) (hS : va_S (Aw B) s.heap H locs) (hB : B ≤ s.heap.size) (hn : As.length = n) (hsz : ls.size = nL) (hst : st0 = As.reverse ++ rest) (hrm : (rest.map fun v => v.category).sum ≤ 8) (hdg : decode cc pc = .ok (.invokestatic index, 3)) (hf : cells + mc ≤ R.cells ∧ slots + ms ≤ R.slots) (htb : ∀ x ∈ c.exceptionTable.toList, False) (hlk : meth.locks = false) (h1 : cells + mc ≤ mc2) (h2 : slots + ms ≤ ms2) : W p l e R s m args below meth c H locs cells slots (vx_MQ below (XQ D cy B s0) (XCx D cy B S) args s mc2 ms2 (Aw B)) (F0 m pc ls st0) := by
  obtain ⟨hx, hb, hts, hown, hK, hEn⟩ := C
  exact vx_callv (vx_runS (As := As) (rest := rest) ⟨hx, hb, hml, hown, hts⟩ hM cw ⟨PreW.blind, fun U hU hWm => ⟨rfl, by rw [hU]; exact Nat.le_trans hB hS.1, by rw [hU]; exact hW, va_K.moved hWm.alike hK, by rw [hU]; exact hEn.go hB hS hWm⟩⟩ rfl hn hsz hst (lv_room hrm) hdg hf) hS (fun q _ h => h) (fun q h => h) (fun q _ h => h)
    (fun E ce q9 u t H1 locs1 ht ha hp hb1 hz hk hS1 hce hcv hcl => vx_out (fun x hx2 => (htb x hx2).elim) hlk hce hcv hcl (fun t2 ht2 ha2 => ⟨S, rfl, ⟨hb1.1, by rw [ht2]; exact Nat.le_trans hB hS1.1, by rw [ht2, ← ht]; have h9 := hb1.2.2; rw [hp] at h9; exact h9⟩, hS1.F ht2⟩) hS1.2.2 h1 h2)
    (fun u t H1 locs1 ht ha hp hb1 hz hk hS1 => hp.elim)
theorem k_callVX {ci : Nat} {fs : List Value} {T : u_T} {N : Nat} (C : Cx p s m args c cc Ts own D cy B s0) (hml : c.maxLocals = nL) (hM : KX l y ws rm D cy B s0 (.ref b :: As) S mc ms) (cw : CallW R s args own Cn index y bytes maxL ret ws rm mc ms n) (hW : PW D cy B S H) (hS : va_S (Aw B) s.heap H locs) (hB : B ≤ s.heap.size) (hL : b ∈ pL S) (hF : pF cy S b = .inr (ci, fs)) (hc : vwCl[ci]? = some (Cn, T, N)) (hn : As.length = n) (hsz : ls.size = nL) (hst : st0 = As.reverse ++ .ref b :: rest) (hrm : (rest.map fun v => v.category).sum ≤ 8) (hdg : decode cc pc = .ok (.invokevirtual index, 3)) (hf : cells + mc ≤ R.cells ∧ slots + ms ≤ R.slots) (htb : ∀ x ∈ c.exceptionTable.toList, False) (hlk : meth.locks = false) (h1 : cells + mc ≤ mc2) (h2 : slots + ms ≤ ms2) : W p l e R s m args below meth c H locs cells slots (vx_MQ below (XQ D cy B s0) (XCx D cy B S) args s mc2 ms2 (Aw B)) (F0 m pc ls st0) := by
  obtain ⟨hx, hb, hts, hown, hK, hEn⟩ := C
  obtain ⟨k0, hk0⟩ := va_pl_get (X := []) (f := pF cy S) hL
  rw [hF] at hk0
  exact vx_callv (vx_runV (As := As) (rest := rest) ⟨hx, hb, hml, hown, hts⟩ hM cw ⟨PreW.blind, va_recv hK hW.1 (ci := ci) (q0 := k0) hc hk0, fun U hU hWm => ⟨rfl, by rw [hU]; exact Nat.le_trans hB hS.1, by rw [hU]; exact hW, va_K.moved hWm.alike hK, by rw [hU]; exact hEn.go hB hS hWm⟩⟩ rfl hn hsz hst (lv_room hrm) hdg hf) hS (fun q _ h => h) (fun q h => h) (fun q _ h => h)
    (fun E ce q9 u t H1 locs1 ht ha hp hb1 hz hk hS1 hce hcv hcl => vx_out (fun x hx2 => (htb x hx2).elim) hlk hce hcv hcl (fun t2 ht2 ha2 => ⟨S, rfl, ⟨hb1.1, by rw [ht2]; exact Nat.le_trans hB hS1.1, by rw [ht2, ← ht]; have h9 := hb1.2.2; rw [hp] at h9; exact h9⟩, hS1.F ht2⟩) hS1.2.2 h1 h2)
    (fun u t H1 locs1 ht ha hp hb1 hz hk hS1 => hp.elim)
/-- a callee's exception is caught here -/
theorem k_callVC {ci : Nat} {fs : List Value} {T : u_T} {N : Nat} {name : String} {x : ExceptionTableEntry} (C : Cx p s m args c cc Ts own D cy B s0) (hml : c.maxLocals = nL) (hM : KX l y ws rm D cy B s0 (.ref b :: As) S mc ms) (cw : CallW R s args own Cn index y bytes maxL ret ws rm mc ms n) (hW : PW D cy B S H) (hS : va_S (Aw B) s.heap H locs) (hB : B ≤ s.heap.size) (hL : b ∈ pL S) (hF : pF cy S b = .inr (ci, fs)) (hc : vwCl[ci]? = some (Cn, T, N)) (hn : As.length = n) (hsz : ls.size = nL) (hst : st0 = As.reverse ++ .ref b :: rest) (hrm : (rest.map fun v => v.category).sum ≤ 8) (hdg : decode cc pc = .ok (.invokevirtual index, 3)) (hf : cells + mc ≤ R.cells ∧ slots + ms ≤ R.slots)
    (ht : c.exceptionTable.toList = [x]) (hcv9 : covers x pc = true) (h0 : x.catchType ≠ 0) (hlink : (Cond.classLink own x.catchType name).before args s = true) (hcast : (Cond.castable IAE name).before args s = true)
    (kk : ∀ (q9 : Nat) (H1 : Heap) (locs1 : List Loc), PW D cy B S H1 → va_S (Aw B) s.heap H1 locs1 → W p l e R s m args below meth c H1 locs1 (cells + mc) (slots + ms) Q (F0 m x.handlerPc ls [.ref q9])) : W p l e R s m args below meth c H locs cells slots Q (F0 m pc ls st0) := by
  obtain ⟨hx, hb, hts, hown, hK, hEn⟩ := C
  obtain ⟨k0, hk0⟩ := va_pl_get (X := []) (f := pF cy S) hL
  rw [hF] at hk0
  exact vx_callv (vx_runV (As := As) (rest := rest) ⟨hx, hb, hml, hown, hts⟩ hM cw ⟨PreW.blind, va_recv hK hW.1 (ci := ci) (q0 := k0) hc hk0, fun U hU hWm => ⟨rfl, by rw [hU]; exact Nat.le_trans hB hS.1, by rw [hU]; exact hW, va_K.moved hWm.alike hK, by rw [hU]; exact hEn.go hB hS hWm⟩⟩ rfl hn hsz hst (lv_room hrm) hdg hf) hS (fun q _ h => h) (fun q h => h) (fun q _ h => h)
    (fun E ce q9 u t H1 locs1 ht2 ha hp hb1 hz hk hS1 hce hcv hcl => v_catch hown ht hcv9 h0 hlink (by rw [hb1.1]; exact hcast) hce hcv hcl (kk q9 H1 locs1 (by rw [← ht2]; have h9 := hb1.2.2; rw [hp] at h9; exact h9) hS1))
    (fun u t H1 locs1 ht ha hp hb1 hz hk hS1 => hp.elim)
end THR
