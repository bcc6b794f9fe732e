/-! rows for the law's helpers: methods with a handler -/
section WROWS
variable {p : Program} {l : Launch} {e : Env} {R : Room} {s : State} {m : MethodId} {args : Array Value} {below : List Frame} {meth : Method} {c : Code} {H : Heap} {locs : List Loc} {cells slots : Nat} {Q : State → Prop} {cc : ByteArray} {pc : Nat} {ls : Array Slot} {rest st0 : List Value} {D : va_G} {cy : Nat → ClassId} {B : Nat} {S : PS} {Ts ws ws2 : List Cond} {own : String} {s0 : State} {y : MethodName} {rm : Room} {maxL mc ms nL n index : Nat} {ret : Option FieldType} {bytes : ByteArray} {b : Nat} {As : List Value} {hh : List (Nat × Nat × Nat × Nat)}
theorem k_bodyW {Qc : Array Value → State → Outcome → State → Prop} {av : List Value} {free : Addr → Prop} (ho : y.cls = own) (hy : plainName y.cls = true) (hw : ws = Cond.codeWith y cc maxL ret hh :: ws2) (hav : (lg_sl av).length ≤ maxL)
    (body : ∀ (p : Program) (e : Env) (s : State) (m : MethodId) (below : List Frame) (meth : Method) (c : Code), Cx p s m av.toArray c cc ws own D cy B s0 → c.maxLocals = maxL → meth.sig.returnType = ret → meth.locks = false → c.exceptionTable.toList = tableOf hh → B ≤ s.heap.size → PW D cy B S s.heap → ∀ ls, lv_has ls maxL (lv_args 0 av) → W p l e rm s m av.toArray below meth c s.heap [] 0 0 (MQ below Qc av.toArray s mc ms free) (F0 m 0 ls [])) : Met l y ws rm (va_Pc av (PreW D cy B s0 S)) Qc mc ms free := by
  subst ho
  refine va_MetW hy hw ?_
  intro p e s m args below meth c s₁ BB hml hv
  obtain ⟨rfl, hB, hW, hK, hEn⟩ := hv
  have hts := atoms_spec (ws := ws) BB.pre
  have hl := lv_entry av (n := maxL) hav
  have htb := vx_table (x := y) BB (hts (Cond.codeWith y cc maxL ret hh) (by rw [hw]; exact List.mem_cons_self))
  rw [lg_entry_eq]
  exact body p e s m below meth c ⟨BB.exec, BB.bytes, hts, findClass_of_methodNamed BB.named, hK, hEn⟩ hml BB.returns BB.notSynchronized htb hB hW _ hl
theorem k_callSWi {post : Int32 → PS → Prop} (C : Cx p s m args c cc Ts own D cy B s0) (hml : c.maxLocals = nL) (hM : KI l y ws rm D cy B s0 As S post mc ms) (cw : vx_CSW R s args own index y bytes maxL ret hh ws rm mc ms n) (hW : PW D cy B S H) (hS : va_S (Aw B) s.heap H locs) (hB : B ≤ s.heap.size) (hn : As.length = n) (hsz : ls.size = nL) (hst : st0 = As.reverse ++ rest) (hrm : (rest.map fun v => v.category).sum ≤ 8) (hdg : decode cc pc = .ok (.invokestatic index, 3)) (hf : cells + mc ≤ R.cells ∧ slots + ms ≤ R.slots) (kk : ∀ (r : Int32) (S1 : PS) (H1 : Heap) (locs1 : List Loc), post r S1 → PW D cy B S1 H1 → va_S (Aw B) s.heap H1 locs1 → W p l e R s m args below meth c H1 locs1 (cells + mc) (slots + ms) Q (F0 m (pc + 3) ls (.int r :: rest))) : W p l e R s m args below meth c H locs cells slots Q (F0 m pc ls st0) := by
  obtain ⟨hx, hb, hts, hown, hK, hEn⟩ := C
  exact va_calli (vx_runSW (As := As) (rest := rest) ⟨hx, hb, hml, hown, hts⟩ hM cw ⟨PreW.blind, fun U hU hWm => ⟨rfl, by rw [hU]; exact Nat.le_trans hB hS.1, by rw [hU]; exact hW, va_K.moved hWm.alike hK, by rw [hU]; exact hEn.go hB hS hWm⟩⟩ rfl hn hsz hst (lv_room hrm) hdg hf) hS (fun q _ h => h) (fun q h => h) (fun r u t H1 locs1 ht hvm hpost hB1 hz hk hS1 => kk r u H1 locs1 hpost (by rw [← ht]; exact hB1.2.1) hS1)
end WROWS
/-- behind a call of the law's helper: the class shows G, and the answer's cell is as it was or holds v -/
def WP (S S2 : PS) (y : Nat → Nat) (dE ob : Nat) (G : MS) (n : Nat) : Prop := ∃ c2, CFo S S2 y ob ∧ aN S2 ob = 1 ∧ CR S2 y dE G c2 ∧ CanB c2 G n ∧ CanH c2 G n
theorem WP.st {S S2 : PS} {y : Nat → Nat} {dE ob n : Nat} {G : MS} {v : Int64} (h : WP S S2 y dE ob G n) : WP S (tJ S2 ob 0 v) y dE ob G n := by
  obtain ⟨c2, h1, h2, h3, h4, h5⟩ := h
  exact ⟨c2, Fr.tJ h1 (Or.inl (Or.inr (Or.inr rfl))), h2, h3, h4, h5⟩
theorem WP.rf {S : PS} {y : Nat → Nat} {dE ob n : Nat} {G : MS} {c : CS} (h2 : aN S ob = 1) (h3 : CR S y dE G c) (h4 : CanB c G n) (h5 : CanH c G n) : WP S S y dE ob G n := ⟨c, Fr.rf, h2, h3, h4, h5⟩
theorem WP.cf {S S2 : PS} {y : Nat → Nat} {dE ob n : Nat} {G : MS} {c : CS} (h1 : CF S S2 y) (h7 : IsAt S 13 (y 7)) (ho : IsAt S 14 ob) (h2 : aN S ob = 1) (h3 : CR S2 y dE G c) (h4 : CanB c G n) (h5 : CanH c G n) : WP S S2 y dE ob G n := by
  refine ⟨c, CFo.of h1, ?_, h3, h4, h5⟩
  have no : ¬ (¬ RK (pK S ob) ∨ ob = y 7) := by
    rintro (z | z)
    · exact z (by rw [ho.2]; exact Or.inr (Or.inr (Or.inl rfl)))
    · exact IsAt.ne ho h7 (by decide) z
  exact ((h1.2 ob ho.1 no).2.2.2.1).trans h2
theorem tJ_0 {S : PS} {a : Nat} {v : Int64} : aJ (tJ S a 0 v) a 0 = v := by rw [tJ_s, up_same]
