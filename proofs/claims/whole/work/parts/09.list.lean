theorem castW {s0 U : State} {B : Nat} {H : Heap} {C T : String} (h : EnvW s0 B U H) (hc : va_Nw (.castable C T) s0) : va_Nw (.castable C T) U := va_tabs rfl (rfl : (s0.setVm U.vm).vm = U.vm) (by rw [Cond.castable_setVm h.1]; exact hc)
/-- the shared empty array of ArrayList -/
def Sd (dE B : Nat) (s0 : State) : Prop := va_Z "java/util/ArrayList" "DEFAULTCAPACITY_EMPTY_ELEMENTDATA" "[Ljava/lang/Object;" (.ref dE) (Aw B) s0 s0.heap ∧ va_T (.object "java/lang/Object") dE 0 (fun _ => .null) (Aw B) s0 s0.heap ∧ dE < B
theorem Sd.z {dE B : Nat} {s0 U : State} (h : Sd dE B s0) (hE : EnvW s0 B U U.heap) : va_Z "java/util/ArrayList" "DEFAULTCAPACITY_EMPTY_ELEMENTDATA" "[Ljava/lang/Object;" (.ref dE) (Aw B) U U.heap := (h.1.moved hE.1).kept (fun a _ hn => hE.2.1 a (Nat.not_le.mp hn))
theorem Sd.t {dE B : Nat} {s0 U : State} (h : Sd dE B s0) (hE : EnvW s0 B U U.heap) : va_T (.object "java/lang/Object") dE 0 (fun _ => .null) (Aw B) U U.heap := (h.2.1.moved hE.1).kept (fun a _ hn => hE.2.1 a (Nat.not_le.mp hn))
section LROWS
variable {p : Program} {l : Launch} {e : Env} {R : Room} {s : State} {m : MethodId} {args : Array Value} {below : List Frame} {meth : Method} {c : Code} {H : Heap} {locs : List Loc} {cells slots : Nat} {Q : State → Prop} {cc : ByteArray} {pc : Nat} {ls : Array Slot} {rest : List Value} {D : va_G} {cy : Nat → ClassId} {B : Nat} {S : PS} {Ts : List Cond} {own : String} {H0 : Heap} {s0 : State}
theorem a_Object4store (C : Cx p s m args c cc Ts own D cy B s0) (hW : PW D cy B S H) (hS : va_S (Aw B) H0 H locs) {a j n : Nat} {i : Int32} {q : Nat} (hA : IsAt S 21 a) (hn : aN S a = n) (hi : i = nI j) (hj : j < n) (hb31 : n < 2 ^ 31) (hq : IsAt S 4 q) (hca : va_Nw (.castable "LeaseGates$Hold" "java/lang/Object") s0) (hdg : decode cc pc = .ok (.aastore, 1)) (kk : ∀ (S1 : PS) (H1 : Heap) (locs1 : List Loc), S1 = tQ S a j (some q) → PW D cy B S1 H1 → va_S (Aw B) H0 H1 locs1 → W p l e R s m args below meth c H1 locs1 cells slots Q (F0 m (pc + 1) ls rest)) : W p l e R s m args below meth c H locs cells slots Q (F0 m pc ls (.ref q :: .int i :: .ref a :: rest)) := by
  subst hi hn
  obtain ⟨hx, hb, hts, hown, hK, hEn⟩ := C
  obtain ⟨hP, hD⟩ := hW
  obtain ⟨k0, hk0⟩ := va_pl_get (X := []) (f := pF cy S) hA.1
  have hk1 := hk0
  rw [pAt_21 hA.2] at hk0
  obtain ⟨q0, hq0⟩ := va_pl_get (X := []) (f := pF cy S) hq.1
  rw [pAt_4 hq.2] at hq0
  refine va_astqO hx hb hK hP hD hS k0 8 q0 5 hk0 rfl (castW hEn hca) hq0 rfl (vp_in_nI hj hb31) hdg (fun H1 locs1 hP1 hD1 hS1 => ?_)
  rw [nI_clamp (Nat.lt_trans hj hb31)] at hP1 hD1
  rw [pw_set (S2 := tQ S a j (some q)) hD hA.1 hk1 rfl (pF_up tQ_off (by rw [pAt_21 (S := tQ S a j (some q)) hA.2]; rw [tQ_s]; rfl))] at hP1 hD1
  exact kk _ H1 locs1 rfl ⟨hP1, hD1⟩ hS1
theorem a_Object5store (C : Cx p s m args c cc Ts own D cy B s0) (hW : PW D cy B S H) (hS : va_S (Aw B) H0 H locs) {a j n : Nat} {i : Int32} {q : Nat} (hA : IsAt S 21 a) (hn : aN S a = n) (hi : i = nI j) (hj : j < n) (hb31 : n < 2 ^ 31) (hq : IsAt S 5 q) (hca : va_Nw (.castable "LeaseGates$Loan" "java/lang/Object") s0) (hdg : decode cc pc = .ok (.aastore, 1)) (kk : ∀ (S1 : PS) (H1 : Heap) (locs1 : List Loc), S1 = tQ S a j (some q) → PW D cy B S1 H1 → va_S (Aw B) H0 H1 locs1 → W p l e R s m args below meth c H1 locs1 cells slots Q (F0 m (pc + 1) ls rest)) : W p l e R s m args below meth c H locs cells slots Q (F0 m pc ls (.ref q :: .int i :: .ref a :: rest)) := by
  subst hi hn
  obtain ⟨hx, hb, hts, hown, hK, hEn⟩ := C
  obtain ⟨hP, hD⟩ := hW
  obtain ⟨k0, hk0⟩ := va_pl_get (X := []) (f := pF cy S) hA.1
  have hk1 := hk0
  rw [pAt_21 hA.2] at hk0
  obtain ⟨q0, hq0⟩ := va_pl_get (X := []) (f := pF cy S) hq.1
  rw [pAt_5 hq.2] at hq0
  refine va_astqO hx hb hK hP hD hS k0 8 q0 6 hk0 rfl (castW hEn hca) hq0 rfl (vp_in_nI hj hb31) hdg (fun H1 locs1 hP1 hD1 hS1 => ?_)
  rw [nI_clamp (Nat.lt_trans hj hb31)] at hP1 hD1
  rw [pw_set (S2 := tQ S a j (some q)) hD hA.1 hk1 rfl (pF_up tQ_off (by rw [pAt_21 (S := tQ S a j (some q)) hA.2]; rw [tQ_s]; rfl))] at hP1 hD1
  exact kk _ H1 locs1 rfl ⟨hP1, hD1⟩ hS1
theorem a_ObjectstoreN (C : Cx p s m args c cc Ts own D cy B s0) (hW : PW D cy B S H) (hS : va_S (Aw B) H0 H locs) {a j n : Nat} {i : Int32}  (hA : IsAt S 21 a) (hn : aN S a = n) (hi : i = nI j) (hj : j < n) (hb31 : n < 2 ^ 31) (hdg : decode cc pc = .ok (.aastore, 1)) (kk : ∀ (S1 : PS) (H1 : Heap) (locs1 : List Loc), S1 = tQ S a j none → PW D cy B S1 H1 → va_S (Aw B) H0 H1 locs1 → W p l e R s m args below meth c H1 locs1 cells slots Q (F0 m (pc + 1) ls rest)) : W p l e R s m args below meth c H locs cells slots Q (F0 m pc ls (.null :: .int i :: .ref a :: rest)) := by
  subst hi hn
  obtain ⟨hx, hb, hts, hown, hK, hEn⟩ := C
  obtain ⟨hP, hD⟩ := hW
  obtain ⟨k0, hk0⟩ := va_pl_get (X := []) (f := pF cy S) hA.1
  have hk1 := hk0
  rw [pAt_21 hA.2] at hk0
  refine va_astqN hx hb hK hP hD hS k0 8 hk0 rfl (vp_in_nI hj hb31) hdg (fun H1 locs1 hP1 hD1 hS1 => ?_)
  rw [nI_clamp (Nat.lt_trans hj hb31)] at hP1 hD1
  rw [pw_set (S2 := tQ S a j none) hD hA.1 hk1 rfl (pF_up tQ_off (by rw [pAt_21 (S := tQ S a j none) hA.2]; rw [tQ_s]; rfl))] at hP1 hD1
  exact kk _ H1 locs1 rfl ⟨hP1, hD1⟩ hS1
theorem k_dE (C : Cx p s m args c cc Ts own D cy B s0) (hS : va_S (Aw B) s.heap H locs) {dE index : Nat} (hd : Sd dE B s0) (hlink : Cond.fieldLink own index "java/util/ArrayList" "DEFAULTCAPACITY_EMPTY_ELEMENTDATA" "[Ljava/lang/Object;" ∈ Ts) (hdg : decode cc pc = .ok (.getstatic index, 3)) (kk : W p l e R s m args below meth c H locs cells slots Q (F0 m (pc + 3) ls (.ref dE :: rest))) : W p l e R s m args below meth c H locs cells slots Q (F0 m pc ls rest) := by
  obtain ⟨hx, hb, hts, hown, hK, hEn⟩ := C
  exact va_gets hx hb (hd.z hEn) hS hown (hts _ hlink) (fun _ h => h) hdg kk
theorem k_dElen (C : Cx p s m args c cc Ts own D cy B s0) (hS : va_S (Aw B) s.heap H locs) {dE : Nat} (hd : Sd dE B s0) (hdg : decode cc pc = .ok (.arraylength, 1)) (kk : W p l e R s m args below meth c H locs cells slots Q (F0 m (pc + 1) ls (.int (nI 0) :: rest))) : W p l e R s m args below meth c H locs cells slots Q (F0 m pc ls (.ref dE :: rest)) := by
  obtain ⟨hx, hb, hts, hown, hK, hEn⟩ := C
  exact va_tlen hx hb (hd.t hEn) hS rfl hdg kk
/-- a stretch of an array of objects moved within it -/
def cQ (S : PS) (a sp dp n : Nat) : PS := (S.1, S.2.1, (aN S, aI S, aJ S, va_up (aQ S) a (va_cpy (aQ S a) (aQ S a) sp dp n)))
theorem cQ_off {cy : Nat → ClassId} {S : PS} {a sp dp n : Nat} (b : Nat) (h : b ≠ a) : pF cy (cQ S a sp dp n) b = pF cy S b := by
  show pE cy (pK S b) _ _ _ (aN S b) (aI S b) (aJ S b) (va_up (aQ S) a (va_cpy (aQ S a) (aQ S a) sp dp n) b) = _
  rw [va_up_ne _ _ h]
  rfl
theorem cQ_s {S : PS} {a sp dp n : Nat} : aQ (cQ S a sp dp n) a = va_cpy (aQ S a) (aQ S a) sp dp n := by show va_up (aQ S) a _ a = _; simp [va_up]
theorem cQ_a {S : PS} {a sp dp n b : Nat} (h : b ≠ a) : aQ (cQ S a sp dp n) b = aQ S b := by show va_up (aQ S) a _ b = _; rw [va_up_ne _ _ h]
theorem k_copy4 (C : Cx p s m args c cc Ts own D cy B s0) (hml : c.maxLocals = ls.size) {index a sp dp n N : Nat} {isp idp inn : Int32} (h1 : Cond.methodLink own index arraycopyName ∈ Ts) (h2 : Cond.native arraycopyName ∈ Ts) (h3 : Cond.static arraycopyName ∈ Ts) (h4 : Cond.initialized "java/lang/System" ∈ Ts) (hca : va_Nw (.castable "LeaseGates$Hold" "java/lang/Object") s0) (hW : PW D cy B S H) (hS : va_S (Aw B) H0 H locs) (hA : IsAt S 21 a) (hN : aN S a = N) (hN3 : N < 2 ^ 31) (e1 : isp = nI sp) (e2 : idp = nI dp) (e3 : inn = nI n) (g1 : sp + n ≤ N) (g2 : dp + n ≤ N) (hel : ∀ i, i < n → ∀ y, aQ S a (sp + i) = some y → IsAt S 4 y) (hfr : 1 ≤ R.frames) (hlo : (rest.map fun v => v.category).sum + (nativeFrameWords "java/lang/System" "arraycopy" 5 + 11) ≤ R.locals) (hdg : decode cc pc = .ok (.invokestatic index, 3)) (kk : ∀ (S1 : PS) (H1 : Heap) (locs1 : List Loc), S1 = cQ S a sp dp n → PW D cy B S1 H1 → va_S (Aw B) H0 H1 locs1 → W p l e R s m args below meth c H1 locs1 cells slots Q (F0 m (pc + 3) ls rest)) : W p l e R s m args below meth c H locs cells slots Q (F0 m pc ls (.int inn :: .int idp :: .ref a :: .int isp :: .ref a :: rest)) := by
  subst e1 e2 e3 hN
  obtain ⟨hx, hb, hts, hown, hK, hEn⟩ := C
  obtain ⟨hP, hD⟩ := hW
  obtain ⟨k0, hk0⟩ := va_pl_get (X := []) (f := pF cy S) hA.1
  have hk1 := hk0
  rw [pAt_21 hA.2] at hk0
  have c1 : (nI sp).toNatClampNeg = sp := nI_clamp (by omega)
  have c2 : (nI dp).toNatClampNeg = dp := nI_clamp (by omega)
  have c3 : (nI n).toNatClampNeg = n := nI_clamp (by omega)
  refine va_copyq (C := "LeaseGates$Hold") hx hb hml hown (hts _ h1) (hts _ h2) (hts _ h3) (hts _ h4) hK hP hD hS k0 k0 8 8 hk0 hk0 rfl rfl (nI_pos (by omega)) (nI_pos (by omega)) (nI_pos (by omega)) (by rw [c1, c3]; exact g1) (by rw [c2, c3]; exact g2) (fun i hi y hy => ?_) (fun comp c0 f1 f2 => ?_) hfr hlo hdg (fun H1 locs1 hP1 hD1 hS1 => ?_)
  · rw [c3] at hi
    rw [c1] at hy
    have hq := hel i hi y hy
    obtain ⟨k2, hk2⟩ := va_pl_get (X := []) (f := pF cy S) hq.1
    rw [pAt_4 hq.2] at hk2
    exact va_recv hK hP (ci := 5) (q0 := k2) rfl hk2
  · obtain ⟨c3, t3, w1, w2, w3⟩ := Cond.castable_spec (va_Nw.use (A := args) rfl (castW hEn hca))
    cases Option.some.inj (w1.symm.trans f2)
    cases Option.some.inj (w2.symm.trans f1)
    exact w3
  · rw [c1, c2, c3] at hP1 hD1
    rw [pw_set (S2 := cQ S a sp dp n) hD hA.1 hk1 rfl (pF_up cQ_off (by rw [pAt_21 (S := cQ S a sp dp n) hA.2]; rw [cQ_s]; rfl))] at hP1 hD1
    exact kk _ H1 locs1 rfl ⟨hP1, hD1⟩ hS1
theorem k_copy5 (C : Cx p s m args c cc Ts own D cy B s0) (hml : c.maxLocals = ls.size) {index a sp dp n N : Nat} {isp idp inn : Int32} (h1 : Cond.methodLink own index arraycopyName ∈ Ts) (h2 : Cond.native arraycopyName ∈ Ts) (h3 : Cond.static arraycopyName ∈ Ts) (h4 : Cond.initialized "java/lang/System" ∈ Ts) (hca : va_Nw (.castable "LeaseGates$Loan" "java/lang/Object") s0) (hW : PW D cy B S H) (hS : va_S (Aw B) H0 H locs) (hA : IsAt S 21 a) (hN : aN S a = N) (hN3 : N < 2 ^ 31) (e1 : isp = nI sp) (e2 : idp = nI dp) (e3 : inn = nI n) (g1 : sp + n ≤ N) (g2 : dp + n ≤ N) (hel : ∀ i, i < n → ∀ y, aQ S a (sp + i) = some y → IsAt S 5 y) (hfr : 1 ≤ R.frames) (hlo : (rest.map fun v => v.category).sum + (nativeFrameWords "java/lang/System" "arraycopy" 5 + 11) ≤ R.locals) (hdg : decode cc pc = .ok (.invokestatic index, 3)) (kk : ∀ (S1 : PS) (H1 : Heap) (locs1 : List Loc), S1 = cQ S a sp dp n → PW D cy B S1 H1 → va_S (Aw B) H0 H1 locs1 → W p l e R s m args below meth c H1 locs1 cells slots Q (F0 m (pc + 3) ls rest)) : W p l e R s m args below meth c H locs cells slots Q (F0 m pc ls (.int inn :: .int idp :: .ref a :: .int isp :: .ref a :: rest)) := by
  subst e1 e2 e3 hN
  obtain ⟨hx, hb, hts, hown, hK, hEn⟩ := C
  obtain ⟨hP, hD⟩ := hW
  obtain ⟨k0, hk0⟩ := va_pl_get (X := []) (f := pF cy S) hA.1
  have hk1 := hk0
  rw [pAt_21 hA.2] at hk0
  have c1 : (nI sp).toNatClampNeg = sp := nI_clamp (by omega)
  have c2 : (nI dp).toNatClampNeg = dp := nI_clamp (by omega)
  have c3 : (nI n).toNatClampNeg = n := nI_clamp (by omega)
  refine va_copyq (C := "LeaseGates$Loan") hx hb hml hown (hts _ h1) (hts _ h2) (hts _ h3) (hts _ h4) hK hP hD hS k0 k0 8 8 hk0 hk0 rfl rfl (nI_pos (by omega)) (nI_pos (by omega)) (nI_pos (by omega)) (by rw [c1, c3]; exact g1) (by rw [c2, c3]; exact g2) (fun i hi y hy => ?_) (fun comp c0 f1 f2 => ?_) hfr hlo hdg (fun H1 locs1 hP1 hD1 hS1 => ?_)
  · rw [c3] at hi
    rw [c1] at hy
    have hq := hel i hi y hy
    obtain ⟨k2, hk2⟩ := va_pl_get (X := []) (f := pF cy S) hq.1
    rw [pAt_5 hq.2] at hk2
    exact va_recv hK hP (ci := 6) (q0 := k2) rfl hk2
  · obtain ⟨c3, t3, w1, w2, w3⟩ := Cond.castable_spec (va_Nw.use (A := args) rfl (castW hEn hca))
    cases Option.some.inj (w1.symm.trans f2)
    cases Option.some.inj (w2.symm.trans f1)
    exact w3
  · rw [c1, c2, c3] at hP1 hD1
    rw [pw_set (S2 := cQ S a sp dp n) hD hA.1 hk1 rfl (pF_up cQ_off (by rw [pAt_21 (S := cQ S a sp dp n) hA.2]; rw [cQ_s]; rfl))] at hP1 hD1
    exact kk _ H1 locs1 rfl ⟨hP1, hD1⟩ hS1
end LROWS
/-- the list at a holds the objects L; its array is e -/
def AL (S : PS) (dE a e : Nat) (L : List Nat) : Prop := IsAt S 12 a ∧ fR S 1201 a = some e ∧ fI S 1202 a = nI L.length ∧ L.length ≤ 400 ∧ ((L = [] ∧ e = dE) ∨ (IsAt S 21 e ∧ 10 ≤ aN S e ∧ aN S e ≤ 700 ∧ L.length ≤ aN S e ∧ ∀ i, i < L.length → aQ S e i = L[i]?))
/-- only the list at a and its array e have changed -/
def ALO (S S2 : PS) (a e : Nat) : Prop := pL S2 = pL S ∧ pK S2 = pK S ∧ fR S2 = fR S ∧ fJ S2 = fJ S ∧ aN S2 = aN S ∧ aI S2 = aI S ∧ aJ S2 = aJ S ∧ (∀ f b, b ≠ a → fI S2 f b = fI S f b) ∧ ∀ b, b ≠ e → aQ S2 b = aQ S b
theorem AL.arr {S : PS} {dE a e : Nat} {L : List Nat} (h : AL S dE a e L) {i : Nat} (hi : i < L.length) : IsAt S 21 e ∧ 10 ≤ aN S e ∧ aN S e ≤ 700 ∧ L.length ≤ aN S e ∧ aQ S e i = L[i]? := by
  rcases h.2.2.2.2 with ⟨z, -⟩ | z
  · subst z; exact absurd hi (Nat.not_lt_zero _)
  · exact ⟨z.1, z.2.1, z.2.2.1, z.2.2.2.1, z.2.2.2.2 i hi⟩
set_option maxRecDepth 100000 in
set_option maxHeartbeats 1000000 in
theorem c_J3_checkIndex_8e157 {l : Launch} {D : va_G} {cy : Nat → ClassId} {B : Nat} {s0 : State} {S : PS} {i n : Nat} (hi : i < n) (hn : n < 2 ^ 31) : KI l yJ3_checkIndex_8e157 wsJ3_checkIndex_8e157 ({ frames := 0, cells := 0, slots := 0, locals := 0 }) D cy B s0 [.int (nI i), .int (nI n), .null] S (fun r S2 => S2 = S ∧ r = nI i) 0 0 := by
  refine k_body (own := RJ3) (cc := cJ3_checkIndex_8e157) (maxL := 3) (ret := (some .int)) rfl (by decide) rfl (Nat.le_of_ble_eq_true rfl) ?_
  intro p e s m below meth c C hml hr hlk hnm hB hW ls hl
  obtain ⟨hx, hb, hts, hown, hK, hEn⟩ := id C
  have hS : va_S (Aw B) s.heap s.heap [] := va_S.rf
  have hl : lv_has ls 3 [(0, .int (nI i)), (1, .int (nI n)), (2, .null)] := hl
  refine lv_iload_n hx hb dJ3_checkIndex_8e157_0 rfl (lv_at hl 0 rfl) ?_
  refine lv_if_lt (tgt := 9) hx hb dJ3_checkIndex_8e157_1 (by decide) (fun c_1 => absurd c_1 (nI_pos (by omega))) (fun c_1 => ?_)
  have q_1 : ¬ (i < 0) := fun z => c_1 ((nI_ltI (a := i) (b := 0) (by omega) (by omega)).mpr z)
  refine lv_iload_n hx hb dJ3_checkIndex_8e157_4 rfl (lv_at hl 0 rfl) ?_
  refine lv_iload_n hx hb dJ3_checkIndex_8e157_5 rfl (lv_at hl 1 rfl) ?_
  refine lv_icmp_lt (tgt := 16) hx hb dJ3_checkIndex_8e157_6 (by decide) (fun c_6 => ?_) (fun c_6 => absurd ((nI_ltI (by omega) hn).mpr hi) c_6)
  have q_6 : i < n := (nI_ltI (a := i) (b := n) (by omega) (by omega)).mp c_6
  refine lv_iload_n hx hb dJ3_checkIndex_8e157_16 rfl (lv_at hl 0 rfl) ?_
  exact k_iret C hr hlk hW hS hB ⟨rfl, rfl⟩ (Nat.le_refl _) (Nat.le_refl _) dJ3_checkIndex_8e157_17
set_option maxRecDepth 100000 in
set_option maxHeartbeats 1000000 in
theorem c_J15_checkIndex_7cf53 {l : Launch} {D : va_G} {cy : Nat → ClassId} {B : Nat} {s0 : State} {S : PS} {i n : Nat} (hi : i < n) (hn : n < 2 ^ 31) : KI l yJ15_checkIndex_7cf53 wsJ15_checkIndex_7cf53 ({ frames := 1, cells := 0, slots := 0, locals := 22 }) D cy B s0 [.int (nI i), .int (nI n)] S (fun r S2 => S2 = S ∧ r = nI i) 0 0 := by
  refine k_body (own := RJ15) (cc := cJ15_checkIndex_7cf53) (maxL := 2) (ret := (some .int)) rfl (by decide) rfl (Nat.le_of_ble_eq_true rfl) ?_
  intro p e s m below meth c C hml hr hlk hnm hB hW ls hl
  obtain ⟨hx, hb, hts, hown, hK, hEn⟩ := id C
  have hS : va_S (Aw B) s.heap s.heap [] := va_S.rf
  have hl : lv_has ls 2 [(0, .int (nI i)), (1, .int (nI n))] := hl
  refine lv_iload_n hx hb dJ15_checkIndex_7cf53_0 rfl (lv_at hl 0 rfl) ?_
  refine lv_iload_n hx hb dJ15_checkIndex_7cf53_1 rfl (lv_at hl 1 rfl) ?_
  refine lv_null hx hb dJ15_checkIndex_7cf53_2 ?_
  refine k_callSi (As := [.int (nI i), .int (nI n), .null]) (rest := []) C hml (c_J3_checkIndex_8e157 hi hn) (va_cwS 3 hts gJ15_checkIndex_7cf53_J3_checkIndex_8e157 rfl rfl rfl (by decide +kernel) ⟨by decide, by decide⟩) hW hS hB rfl hl.1 rfl (Nat.le_of_ble_eq_true rfl) dJ15_checkIndex_7cf53_3 ⟨Nat.le_of_ble_eq_true rfl, Nat.le_of_ble_eq_true rfl⟩ (fun r9 S1 H locs hp9 hW hS => ?_)
  obtain ⟨e8, e9⟩ := hp9
  rw [e8] at hW
  subst e9
  exact k_iret C hr hlk hW hS hB ⟨rfl, rfl⟩ (Nat.le_refl _) (Nat.le_refl _) dJ15_checkIndex_7cf53_6
set_option maxRecDepth 100000 in
set_option maxHeartbeats 1000000 in
theorem c_Jx4a65c_size_8abf5 {l : Launch} {D : va_G} {cy : Nat → ClassId} {B : Nat} {s0 : State} {S : PS} {a : Nat} (h : IsAt S 12 a) : KI l yJx4a65c_size_8abf5 wsJx4a65c_size_8abf5 ({ frames := 0, cells := 0, slots := 0, locals := 0 }) D cy B s0 [.ref a] S (fun r S2 => S2 = S ∧ r = fI S 1202 a) 0 0 := by
  refine k_body (own := RJx4a65c) (cc := cJx4a65c_size_8abf5) (maxL := 1) (ret := (some .int)) rfl (by decide) rfl (Nat.le_of_ble_eq_true rfl) ?_
  intro p e s m below meth c C hml hr hlk hnm hB hW ls hl
  obtain ⟨hx, hb, hts, hown, hK, hEn⟩ := id C
  have hS : va_S (Aw B) s.heap s.heap [] := va_S.rf
  have hinJx4a65c : ∀ w ∈ wsJx4a65c0, w ∈ wsJx4a65c_size_8abf5 := by decide +kernel
  have l48 : Cond.fieldLink RJx4a65c 48 "java/util/ArrayList" "size" "I" ∈ wsJx4a65c_size_8abf5 := by decide +kernel
  have hl : lv_has ls 1 [(0, .ref a)] := hl
  refine lv_aload_n hx hb dJx4a65c_size_8abf5_0 rfl (lv_at hl 0 rfl) ?_
  refine g_1202 C hinJx4a65c hW h l48 dJx4a65c_size_8abf5_1 ?_
  exact k_iret C hr hlk hW hS hB ⟨rfl, rfl⟩ (Nat.le_refl _) (Nat.le_refl _) dJx4a65c_size_8abf5_4
set_option maxRecDepth 100000 in
set_option maxHeartbeats 1000000 in
theorem c_Jx4a65c_elementData_915e3 {l : Launch} {D : va_G} {cy : Nat → ClassId} {B : Nat} {s0 : State} {S : PS} {dE a ea : Nat} {L : List Nat} {i q : Nat} (h : AL S dE a ea L) (hi : i < L.length) (hq : L[i]? = some q) : KQ l yJx4a65c_elementData_915e3 wsJx4a65c_elementData_915e3 ({ frames := 0, cells := 0, slots := 0, locals := 0 }) D cy B s0 [.ref a, .int (nI i)] S (fun r S2 => S2 = S ∧ r = some q) 0 0 := by
  refine k_body (own := RJx4a65c) (cc := cJx4a65c_elementData_915e3) (maxL := 2) (ret := (some (.object "java/lang/Object"))) rfl (by decide) rfl (Nat.le_of_ble_eq_true rfl) ?_
  intro p e s m below meth c C hml hr hlk hnm hB hW ls hl
  obtain ⟨hx, hb, hts, hown, hK, hEn⟩ := id C
  have hS : va_S (Aw B) s.heap s.heap [] := va_S.rf
  have hinJx4a65c : ∀ w ∈ wsJx4a65c0, w ∈ wsJx4a65c_elementData_915e3 := by decide +kernel
  have l9 : Cond.fieldLink RJx4a65c 9 "java/util/ArrayList" "elementData" "[Ljava/lang/Object;" ∈ wsJx4a65c_elementData_915e3 := by decide +kernel
  have hl : lv_has ls 2 [(0, .ref a), (1, .int (nI i))] := hl
  have hA := h.arr hi
  have hl4 := h.2.2.2.1
  refine lv_aload_n hx hb dJx4a65c_elementData_915e3_0 rfl (lv_at hl 0 rfl) ?_
  refine g_1201 C hinJx4a65c hW h.1 h.2.1 l9 dJx4a65c_elementData_915e3_1 ?_
  refine lv_iload_n hx hb dJx4a65c_elementData_915e3_4 rfl (lv_at hl 1 rfl) ?_
  refine a_Objectload C hW (j := i) hA.1 rfl rfl (by omega) (by omega) (hA.2.2.2.2.trans hq) dJx4a65c_elementData_915e3_5 ?_
  exact k_aret C hr hlk hW hS hB ⟨rfl, rfl⟩ (Or.inl ⟨_, rfl⟩) (Nat.le_refl _) (Nat.le_refl _) dJx4a65c_elementData_915e3_6
set_option maxRecDepth 100000 in
set_option maxHeartbeats 1000000 in
theorem c_Jx4a65c_get_915e3 {l : Launch} {D : va_G} {cy : Nat → ClassId} {B : Nat} {s0 : State} {S : PS} {dE a ea : Nat} {L : List Nat} {i q : Nat} (h : AL S dE a ea L) (hi : i < L.length) (hq : L[i]? = some q) : KQ l yJx4a65c_get_915e3 wsJx4a65c_get_915e3 ({ frames := 2, cells := 0, slots := 0, locals := 43 }) D cy B s0 [.ref a, .int (nI i)] S (fun r S2 => S2 = S ∧ r = some q) 0 0 := by
  refine k_body (own := RJx4a65c) (cc := cJx4a65c_get_915e3) (maxL := 2) (ret := (some (.object "java/lang/Object"))) rfl (by decide) rfl (Nat.le_of_ble_eq_true rfl) ?_
  intro p e s m below meth c C hml hr hlk hnm hB hW ls hl
  obtain ⟨hx, hb, hts, hown, hK, hEn⟩ := id C
  have hS : va_S (Aw B) s.heap s.heap [] := va_S.rf
  have hinJx4a65c : ∀ w ∈ wsJx4a65c0, w ∈ wsJx4a65c_get_915e3 := by decide +kernel
  have l48 : Cond.fieldLink RJx4a65c 48 "java/util/ArrayList" "size" "I" ∈ wsJx4a65c_get_915e3 := by decide +kernel
  have hl : lv_has ls 2 [(0, .ref a), (1, .int (nI i))] := hl
  have hA := h.arr hi
  have hl4 := h.2.2.2.1
  refine lv_iload_n hx hb dJx4a65c_get_915e3_0 rfl (lv_at hl 1 rfl) ?_
  refine lv_aload_n hx hb dJx4a65c_get_915e3_1 rfl (lv_at hl 0 rfl) ?_
  refine g_1202 C hinJx4a65c hW h.1 l48 dJx4a65c_get_915e3_2 ?_
  refine top_i (show fI S 1202 a = nI L.length from h.2.2.1) ?_
  refine k_callSi (As := [.int (nI i), .int (nI L.length)]) (rest := []) C hml (c_J15_checkIndex_7cf53 hi (by omega)) (va_cwS 2 hts gJx4a65c_get_915e3_J15_checkIndex_7cf53 rfl rfl rfl (by decide +kernel) ⟨by decide, by decide⟩) hW hS hB rfl hl.1 rfl (Nat.le_of_ble_eq_true rfl) dJx4a65c_get_915e3_5 ⟨Nat.le_of_ble_eq_true rfl, Nat.le_of_ble_eq_true rfl⟩ (fun r9 S1 H locs hp9 hW hS => ?_)
  obtain ⟨e8, e9⟩ := hp9
  rw [e8] at hW
  subst e9
  refine lv_pop hx hb dJx4a65c_get_915e3_8 rfl ?_
  refine lv_aload_n hx hb dJx4a65c_get_915e3_9 rfl (lv_at hl 0 rfl) ?_
  refine lv_iload_n hx hb dJx4a65c_get_915e3_10 rfl (lv_at hl 1 rfl) ?_
  refine k_callVq (As := [.int (nI i)]) (rest := []) C hml (c_Jx4a65c_elementData_915e3 h hi hq) (cwV 1 hts gJx4a65c_get_915e3_Jx4a65c_elementData_915e3 rfl rfl rfl (by decide +kernel) ⟨by decide, by decide⟩) hW hS hB (h.1).1 (pAt_12 (h.1).2) rfl rfl hl.1 rfl (Nat.le_of_ble_eq_true rfl) dJx4a65c_get_915e3_11 ⟨Nat.le_of_ble_eq_true rfl, Nat.le_of_ble_eq_true rfl⟩ (fun r9 S2 H locs hp9 hW hS => ?_)
  obtain ⟨e8, e9⟩ := hp9
  rw [e8] at hW
  subst e9
  exact k_aret C hr hlk hW hS hB ⟨rfl, rfl⟩ (Or.inl ⟨_, rfl⟩) (Nat.le_refl _) (Nat.le_refl _) dJx4a65c_get_915e3_14
set_option maxRecDepth 100000 in
set_option maxHeartbeats 1000000 in
theorem c_Jx4a65c_set_bcc79 {l : Launch} {D : va_G} {cy : Nat → ClassId} {B : Nat} {s0 : State} {S : PS} {dE a ea : Nat} {L : List Nat} {i q x : Nat} (h : AL S dE a ea L) (hi : i < L.length) (hq : L[i]? = some q) (hx4 : IsAt S 4 x) (hca : va_Nw (.castable "LeaseGates$Hold" "java/lang/Object") s0) : KQ l yJx4a65c_set_bcc79 wsJx4a65c_set_bcc79 ({ frames := 2, cells := 0, slots := 0, locals := 43 }) D cy B s0 [.ref a, .int (nI i), .ref x] S (fun r S2 => S2 = tQ S ea i (some x) ∧ r = some q) 0 0 := by
  refine k_body (own := RJx4a65c) (cc := cJx4a65c_set_bcc79) (maxL := 4) (ret := (some (.object "java/lang/Object"))) rfl (by decide) rfl (Nat.le_of_ble_eq_true rfl) ?_
  intro p e s m below meth c C hml hr hlk hnm hB hW ls hl
  obtain ⟨hx, hb, hts, hown, hK, hEn⟩ := id C
  have hS : va_S (Aw B) s.heap s.heap [] := va_S.rf
  have hinJx4a65c : ∀ w ∈ wsJx4a65c0, w ∈ wsJx4a65c_set_bcc79 := by decide +kernel
  have l9 : Cond.fieldLink RJx4a65c 9 "java/util/ArrayList" "elementData" "[Ljava/lang/Object;" ∈ wsJx4a65c_set_bcc79 := by decide +kernel
  have l48 : Cond.fieldLink RJx4a65c 48 "java/util/ArrayList" "size" "I" ∈ wsJx4a65c_set_bcc79 := by decide +kernel
  have hl : lv_has ls 4 [(0, .ref a), (1, .int (nI i)), (2, .ref x)] := hl
  have hA := h.arr hi
  have hl4 := h.2.2.2.1
  refine lv_iload_n hx hb dJx4a65c_set_bcc79_0 rfl (lv_at hl 1 rfl) ?_
  refine lv_aload_n hx hb dJx4a65c_set_bcc79_1 rfl (lv_at hl 0 rfl) ?_
  refine g_1202 C hinJx4a65c hW h.1 l48 dJx4a65c_set_bcc79_2 ?_
  refine top_i (show fI S 1202 a = nI L.length from h.2.2.1) ?_
  refine k_callSi (As := [.int (nI i), .int (nI L.length)]) (rest := []) C hml (c_J15_checkIndex_7cf53 hi (by omega)) (va_cwS 2 hts gJx4a65c_set_bcc79_J15_checkIndex_7cf53 rfl rfl rfl (by decide +kernel) ⟨by decide, by decide⟩) hW hS hB rfl hl.1 rfl (Nat.le_of_ble_eq_true rfl) dJx4a65c_set_bcc79_5 ⟨Nat.le_of_ble_eq_true rfl, Nat.le_of_ble_eq_true rfl⟩ (fun r9 S1 H locs hp9 hW hS => ?_)
  obtain ⟨e8, e9⟩ := hp9
  rw [e8] at hW
  subst e9
  refine lv_pop hx hb dJx4a65c_set_bcc79_8 rfl ?_
  refine lv_aload_n hx hb dJx4a65c_set_bcc79_9 rfl (lv_at hl 0 rfl) ?_
  refine lv_iload_n hx hb dJx4a65c_set_bcc79_10 rfl (lv_at hl 1 rfl) ?_
  refine k_callVq (As := [.int (nI i)]) (rest := []) C hml (c_Jx4a65c_elementData_915e3 h hi hq) (cwV 1 hts gJx4a65c_set_bcc79_Jx4a65c_elementData_915e3 rfl rfl rfl (by decide +kernel) ⟨by decide, by decide⟩) hW hS hB (h.1).1 (pAt_12 (h.1).2) rfl rfl hl.1 rfl (Nat.le_of_ble_eq_true rfl) dJx4a65c_set_bcc79_11 ⟨Nat.le_of_ble_eq_true rfl, Nat.le_of_ble_eq_true rfl⟩ (fun r9 S2 H locs hp9 hW hS => ?_)
  obtain ⟨e8, e9⟩ := hp9
  rw [e8] at hW
  subst e9
  refine lv_astore_n (lv' := [(3, .ref q), (0, .ref a), (1, .int (nI i)), (2, .ref x)]) hx hb dJx4a65c_set_bcc79_14 rfl hl (by decide) rfl (fun ls hl => ?_)
  refine lv_aload_n hx hb dJx4a65c_set_bcc79_15 rfl (lv_at hl 1 rfl) ?_
  refine g_1201 C hinJx4a65c hW h.1 h.2.1 l9 dJx4a65c_set_bcc79_16 ?_
  refine lv_iload_n hx hb dJx4a65c_set_bcc79_19 rfl (lv_at hl 2 rfl) ?_
  refine lv_aload_n hx hb dJx4a65c_set_bcc79_20 rfl (lv_at hl 3 rfl) ?_
  refine a_Object4store C hW hS (j := i) hA.1 rfl rfl (by omega) (by omega) hx4 hca dJx4a65c_set_bcc79_21 (fun S1 H locs e1 hW hS => ?_)
  subst e1
  refine lv_aload_n hx hb dJx4a65c_set_bcc79_22 rfl (lv_at hl 0 rfl) ?_
  exact k_aret C hr hlk hW hS hB ⟨rfl, rfl⟩ (Or.inl ⟨_, rfl⟩) (Nat.le_refl _) (Nat.le_refl _) dJx4a65c_set_bcc79_23
theorem ALO.rf {S : PS} {a e : Nat} : ALO S S a e := ⟨rfl, rfl, rfl, rfl, rfl, rfl, rfl, fun _ _ _ => rfl, fun _ _ => rfl⟩
theorem ALO.tr {S S2 S3 : PS} {a e : Nat} (h : ALO S S2 a e) (k : ALO S2 S3 a e) : ALO S S3 a e := ⟨k.1.trans h.1, k.2.1.trans h.2.1, k.2.2.1.trans h.2.2.1, k.2.2.2.1.trans h.2.2.2.1, k.2.2.2.2.1.trans h.2.2.2.2.1, k.2.2.2.2.2.1.trans h.2.2.2.2.2.1, k.2.2.2.2.2.2.1.trans h.2.2.2.2.2.2.1, fun f b z => (k.2.2.2.2.2.2.2.1 f b z).trans (h.2.2.2.2.2.2.2.1 f b z), fun b z => (k.2.2.2.2.2.2.2.2 b z).trans (h.2.2.2.2.2.2.2.2 b z)⟩
theorem ALO.f {S S2 : PS} {a e f : Nat} {v : Int32} (h : ALO S S2 a e) : ALO S (sI S2 f a v) a e := h.tr ⟨rfl, rfl, rfl, rfl, rfl, rfl, rfl, fun _ b z => sI_a z, fun _ _ => rfl⟩
theorem ALO.q {S S2 : PS} {a e i : Nat} {v : Option Nat} (h : ALO S S2 a e) : ALO S (tQ S2 e i v) a e := h.tr ⟨rfl, rfl, rfl, rfl, rfl, rfl, rfl, fun _ _ _ => rfl, fun b z => tQ_a z⟩
theorem ALO.c {S S2 : PS} {a e x y n : Nat} (h : ALO S S2 a e) : ALO S (cQ S2 e x y n) a e := h.tr ⟨rfl, rfl, rfl, rfl, rfl, rfl, rfl, fun _ _ _ => rfl, fun b z => cQ_a z⟩
/-- an element taken out of the array, the rest moved up -/
theorem AL.out {S S2 : PS} {dE a ea i : Nat} {L : List Nat} (h : AL S dE a ea L) (hi : i < L.length) (hO : ALO S S2 a ea) (hz : fI S2 1202 a = nI (L.length - 1)) (hq : ∀ j, j < L.length - 1 → aQ S2 ea j = if j < i then aQ S ea j else aQ S ea (j + 1)) : AL S2 dE a ea (L.eraseIdx i) := by
  have hl : (L.eraseIdx i).length = L.length - 1 := List.length_eraseIdx_of_lt hi
  have hA := h.arr hi
  have hk : ∀ k b, IsAt S k b → IsAt S2 k b := fun k b z => ⟨by rw [hO.1]; exact z.1, by rw [hO.2.1]; exact z.2⟩
  have h4 := h.2.2.2.1
  refine ⟨hk _ _ h.1, by rw [hO.2.2.1]; exact h.2.1, by rw [hl]; exact hz, by omega, Or.inr ⟨hk _ _ hA.1, by rw [hO.2.2.2.2.1]; exact hA.2.1, by rw [hO.2.2.2.2.1]; exact hA.2.2.1, by rw [hl, hO.2.2.2.2.1]; have := hA.2.2.2.1; omega, fun j hj => ?_⟩⟩
  rw [hl] at hj
  rw [hq j hj, List.getElem?_eraseIdx]
  by_cases z : j < i
  · rw [if_pos z, if_pos z]; exact (h.arr (by omega)).2.2.2.2
  · rw [if_neg z, if_neg z]; exact (h.arr (by omega)).2.2.2.2
theorem out_a {S : PS} {a ea i n : Nat} {v w : Int32} (hi : i < n) (hc : i < n - 1) : ∀ j, j < n - 1 → aQ (tQ (sI (cQ (sI S 1200 a v) ea (i + 1) i (n - 1 - i)) 1202 a w) ea (n - 1) none) ea j = if j < i then aQ S ea j else aQ S ea (j + 1) := by
  intro j hj
  rw [tQ_s, va_up_ne _ _ (by omega)]
  show aQ (cQ (sI S 1200 a v) ea (i + 1) i (n - 1 - i)) ea j = _
  rw [cQ_s]
  unfold va_cpy
  by_cases z : j < i
  · rw [if_pos z, if_neg (fun y => absurd y.1 (by omega))]; rfl
  · rw [if_neg z, if_pos ⟨by omega, by omega⟩]
    show aQ S ea (i + 1 + (j - i)) = _
    rw [show i + 1 + (j - i) = j + 1 by omega]
theorem out_b {S : PS} {a ea i n : Nat} {v w : Int32} (hi : i < n) (hc : n - 1 ≤ i) : ∀ j, j < n - 1 → aQ (tQ (sI (sI S 1200 a v) 1202 a w) ea (n - 1) none) ea j = if j < i then aQ S ea j else aQ S ea (j + 1) := by
  intro j hj
  rw [tQ_s, va_up_ne _ _ (by omega), if_pos (by omega)]
  rfl
set_option maxRecDepth 100000 in
set_option maxHeartbeats 1000000 in
theorem c_Jx4a65c_fastRemove_b59b0 {l : Launch} {D : va_G} {cy : Nat → ClassId} {B : Nat} {s0 : State} {S : PS} {dE a ea : Nat} {L : List Nat} {i : Nat} (h : AL S dE a ea L) (hi : i < L.length) (hel : ∀ j, j < L.length → ∀ y, aQ S ea j = some y → IsAt S 4 y) (hca : va_Nw (.castable "LeaseGates$Hold" "java/lang/Object") s0) : KV l yJx4a65c_fastRemove_b59b0 wsJx4a65c_fastRemove_b59b0 ({ frames := 1, cells := 0, slots := 0, locals := 60 }) D cy B s0 [.ref a, .ref ea, .int (nI i)] S (fun S2 => ALO S S2 a ea ∧ AL S2 dE a ea (L.eraseIdx i)) 0 0 := by
  refine k_body (own := RJx4a65c) (cc := cJx4a65c_fastRemove_b59b0) (maxL := 4) (ret := none) rfl (by decide) rfl (Nat.le_of_ble_eq_true rfl) ?_
  intro p e s m below meth c C hml hr hlk hnm hB hW ls hl
  obtain ⟨hx, hb, hts, hown, hK, hEn⟩ := id C
  have hS : va_S (Aw B) s.heap s.heap [] := va_S.rf
  have hinJx4a65c : ∀ w ∈ wsJx4a65c0, w ∈ wsJx4a65c_fastRemove_b59b0 := by decide +kernel
  have l48 : Cond.fieldLink RJx4a65c 48 "java/util/ArrayList" "size" "I" ∈ wsJx4a65c_fastRemove_b59b0 := by decide +kernel
  have l63 : Cond.fieldLink RJx4a65c 63 "java/util/ArrayList" "modCount" "I" ∈ wsJx4a65c_fastRemove_b59b0 := by decide +kernel
  have hl : lv_has ls 4 [(0, .ref a), (1, .ref ea), (2, .int (nI i))] := hl
  have hA := h.arr hi
  have hl4 := h.2.2.2.1
  have hA4 := hA.2.2.2.1
  have hA3 := hA.2.2.1
  have lsm : Cond.sameField "java/util/ArrayList" "java/util/AbstractList" "modCount" "I" ∈ wsJx4a65c_fastRemove_b59b0 := by decide +kernel
  refine lv_aload_n hx hb dJx4a65c_fastRemove_b59b0_0 rfl (lv_at hl 0 rfl) ?_
  refine lv_dup hx hb dJx4a65c_fastRemove_b59b0_1 rfl ?_
  refine g_1200 C hinJx4a65c hW h.1 l63 lsm dJx4a65c_fastRemove_b59b0_2 ?_
  refine lv_iconst (v := 1) hx hb dJx4a65c_fastRemove_b59b0_5 (by decide) ?_
  refine lv_iadd hx hb dJx4a65c_fastRemove_b59b0_6 ?_
  refine p_1200 C hinJx4a65c hW hS h.1 l63 lsm dJx4a65c_fastRemove_b59b0_7 (fun S1 H locs e1 hW hS => ?_)
  subst e1
  refine lv_aload_n hx hb dJx4a65c_fastRemove_b59b0_10 rfl (lv_at hl 0 rfl) ?_
  refine g_1202 C hinJx4a65c hW h.1 l48 dJx4a65c_fastRemove_b59b0_11 ?_
  refine top_i (show fI (sI S 1200 a ((fI S 1200 a) + 1)) 1202 a = nI L.length from h.2.2.1) ?_
  refine lv_iconst (v := 1) hx hb dJx4a65c_fastRemove_b59b0_14 (by decide) ?_
  refine lv_isub hx hb dJx4a65c_fastRemove_b59b0_15 ?_
  refine top_i (show (nI L.length) - 1 = nI (L.length - 1) from pk_sub (b := 1) (by omega)) ?_
  refine lv_dup hx hb dJx4a65c_fastRemove_b59b0_16 rfl ?_
  refine lv_istore_n (lv' := [(3, .int (nI (L.length - 1))), (0, .ref a), (1, .ref ea), (2, .int (nI i))]) hx hb dJx4a65c_fastRemove_b59b0_17 rfl hl (by decide) rfl (fun ls hl => ?_)
  refine lv_iload_n hx hb dJx4a65c_fastRemove_b59b0_18 rfl (lv_at hl 3 rfl) ?_
  refine lv_icmp_le (tgt := 34) hx hb dJx4a65c_fastRemove_b59b0_19 (by decide) (fun c_19 => ?_) (fun c_19 => ?_)
  · have q_19 : (L.length - 1) ≤ i := (nI_leI (a := (L.length - 1)) (b := i) (by omega) (by omega)).mp c_19
    refine lv_aload_n hx hb dJx4a65c_fastRemove_b59b0_34 rfl (lv_at hl 2 rfl) ?_
    refine lv_aload_n hx hb dJx4a65c_fastRemove_b59b0_35 rfl (lv_at hl 1 rfl) ?_
    refine lv_iload_n hx hb dJx4a65c_fastRemove_b59b0_36 rfl (lv_at hl 0 rfl) ?_
    refine lv_dup_x1 hx hb dJx4a65c_fastRemove_b59b0_37 rfl rfl ?_
    refine p_1202 C hinJx4a65c hW hS h.1 l48 dJx4a65c_fastRemove_b59b0_38 (fun S1 H locs e1 hW hS => ?_)
    subst e1
    refine lv_null hx hb dJx4a65c_fastRemove_b59b0_41 ?_
    refine a_ObjectstoreN C hW hS (j := (L.length - 1)) hA.1 (show aN _ ea = aN S ea from rfl) rfl (by omega) (by omega) dJx4a65c_fastRemove_b59b0_42 (fun S1 H locs e1 hW hS => ?_)
    subst e1
    exact k_vret C hr hlk hW hS hB ⟨ALO.rf.f.f.q, h.out hi ALO.rf.f.f.q (show fI (sI _ 1202 a _) 1202 a = _ from sI_s) (out_b hi q_19)⟩ (Nat.le_refl _) (Nat.le_refl _) dJx4a65c_fastRemove_b59b0_43
  · have q_19 : ¬ ((L.length - 1) ≤ i) := fun z => c_19 ((nI_leI (a := (L.length - 1)) (b := i) (by omega) (by omega)).mpr z)
    refine lv_aload_n hx hb dJx4a65c_fastRemove_b59b0_22 rfl (lv_at hl 2 rfl) ?_
    refine lv_iload_n hx hb dJx4a65c_fastRemove_b59b0_23 rfl (lv_at hl 3 rfl) ?_
    refine lv_iconst (v := 1) hx hb dJx4a65c_fastRemove_b59b0_24 (by decide) ?_
    refine lv_iadd hx hb dJx4a65c_fastRemove_b59b0_25 ?_
    refine top_i (show (nI i) + 1 = nI (i + 1) from nI_add i 1) ?_
    refine lv_aload_n hx hb dJx4a65c_fastRemove_b59b0_26 rfl (lv_at hl 2 rfl) ?_
    refine lv_iload_n hx hb dJx4a65c_fastRemove_b59b0_27 rfl (lv_at hl 3 rfl) ?_
    refine lv_iload_n hx hb dJx4a65c_fastRemove_b59b0_28 rfl (lv_at hl 0 rfl) ?_
    refine lv_iload_n hx hb dJx4a65c_fastRemove_b59b0_29 rfl (lv_at hl 3 rfl) ?_
    refine lv_isub hx hb dJx4a65c_fastRemove_b59b0_30 ?_
    refine k_copy4 (sp := i + 1) (dp := i) (n := L.length - 1 - i) (N := aN S ea) C (hml.trans hl.1.symm) (by decide +kernel) (by decide +kernel) (by decide +kernel) (by decide +kernel) hca hW hS hA.1 (show aN _ ea = aN S ea from rfl) (by omega) rfl rfl (by rw [pk_sub (by omega)]) (by omega) (by omega) (fun j hj y hy => hel _ (by omega) y hy) (by decide) (by decide) dJx4a65c_fastRemove_b59b0_31 (fun S1 H locs e1 hW hS => ?_)
    subst e1
    refine lv_aload_n hx hb dJx4a65c_fastRemove_b59b0_34 rfl (lv_at hl 2 rfl) ?_
    refine lv_aload_n hx hb dJx4a65c_fastRemove_b59b0_35 rfl (lv_at hl 1 rfl) ?_
    refine lv_iload_n hx hb dJx4a65c_fastRemove_b59b0_36 rfl (lv_at hl 0 rfl) ?_
    refine lv_dup_x1 hx hb dJx4a65c_fastRemove_b59b0_37 rfl rfl ?_
    refine p_1202 C hinJx4a65c hW hS h.1 l48 dJx4a65c_fastRemove_b59b0_38 (fun S1 H locs e1 hW hS => ?_)
    subst e1
    refine lv_null hx hb dJx4a65c_fastRemove_b59b0_41 ?_
    refine a_ObjectstoreN C hW hS (j := (L.length - 1)) hA.1 (show aN _ ea = aN S ea from rfl) rfl (by omega) (by omega) dJx4a65c_fastRemove_b59b0_42 (fun S1 H locs e1 hW hS => ?_)
    subst e1
    exact k_vret C hr hlk hW hS hB ⟨ALO.rf.f.c.f.q, h.out hi ALO.rf.f.c.f.q (show fI (sI _ 1202 a _) 1202 a = _ from sI_s) (out_a hi (by omega))⟩ (Nat.le_refl _) (Nat.le_refl _) dJx4a65c_fastRemove_b59b0_43
set_option maxRecDepth 100000 in
set_option maxHeartbeats 1000000 in
theorem c_Jx4a65c_remove_915e3 {l : Launch} {D : va_G} {cy : Nat → ClassId} {B : Nat} {s0 : State} {S : PS} {dE a ea : Nat} {L : List Nat} {i q : Nat} (h : AL S dE a ea L) (hi : i < L.length) (hq : L[i]? = some q) (hel : ∀ j, j < L.length → ∀ y, aQ S ea j = some y → IsAt S 4 y) (hca : va_Nw (.castable "LeaseGates$Hold" "java/lang/Object") s0) : KQ l yJx4a65c_remove_915e3 wsJx4a65c_remove_915e3 ({ frames := 2, cells := 0, slots := 0, locals := 83 }) D cy B s0 [.ref a, .int (nI i)] S (fun r S2 => (ALO S S2 a ea ∧ AL S2 dE a ea (L.eraseIdx i)) ∧ r = some q) 0 0 := by
  refine k_body (own := RJx4a65c) (cc := cJx4a65c_remove_915e3) (maxL := 4) (ret := (some (.object "java/lang/Object"))) rfl (by decide) rfl (Nat.le_of_ble_eq_true rfl) ?_
  intro p e s m below meth c C hml hr hlk hnm hB hW ls hl
  obtain ⟨hx, hb, hts, hown, hK, hEn⟩ := id C
  have hS : va_S (Aw B) s.heap s.heap [] := va_S.rf
  have hinJx4a65c : ∀ w ∈ wsJx4a65c0, w ∈ wsJx4a65c_remove_915e3 := by decide +kernel
  have l9 : Cond.fieldLink RJx4a65c 9 "java/util/ArrayList" "elementData" "[Ljava/lang/Object;" ∈ wsJx4a65c_remove_915e3 := by decide +kernel
  have l48 : Cond.fieldLink RJx4a65c 48 "java/util/ArrayList" "size" "I" ∈ wsJx4a65c_remove_915e3 := by decide +kernel
  have hl : lv_has ls 4 [(0, .ref a), (1, .int (nI i))] := hl
  have hA := h.arr hi
  have hl4 := h.2.2.2.1
  refine lv_iload_n hx hb dJx4a65c_remove_915e3_0 rfl (lv_at hl 1 rfl) ?_
  refine lv_aload_n hx hb dJx4a65c_remove_915e3_1 rfl (lv_at hl 0 rfl) ?_
  refine g_1202 C hinJx4a65c hW h.1 l48 dJx4a65c_remove_915e3_2 ?_
  refine top_i (show fI S 1202 a = nI L.length from h.2.2.1) ?_
  refine k_callSi (As := [.int (nI i), .int (nI L.length)]) (rest := []) C hml (c_J15_checkIndex_7cf53 hi (by omega)) (va_cwS 2 hts gJx4a65c_remove_915e3_J15_checkIndex_7cf53 rfl rfl rfl (by decide +kernel) ⟨by decide, by decide⟩) hW hS hB rfl hl.1 rfl (Nat.le_of_ble_eq_true rfl) dJx4a65c_remove_915e3_5 ⟨Nat.le_of_ble_eq_true rfl, Nat.le_of_ble_eq_true rfl⟩ (fun r9 S1 H locs hp9 hW hS => ?_)
  obtain ⟨e8, e9⟩ := hp9
  rw [e8] at hW
  subst e9
  refine lv_pop hx hb dJx4a65c_remove_915e3_8 rfl ?_
  refine lv_aload_n hx hb dJx4a65c_remove_915e3_9 rfl (lv_at hl 0 rfl) ?_
  refine g_1201 C hinJx4a65c hW h.1 h.2.1 l9 dJx4a65c_remove_915e3_10 ?_
  refine lv_astore_n (lv' := [(2, .ref ea), (0, .ref a), (1, .int (nI i))]) hx hb dJx4a65c_remove_915e3_13 rfl hl (by decide) rfl (fun ls hl => ?_)
  refine lv_aload_n hx hb dJx4a65c_remove_915e3_14 rfl (lv_at hl 0 rfl) ?_
  refine lv_iload_n hx hb dJx4a65c_remove_915e3_15 rfl (lv_at hl 2 rfl) ?_
  refine a_Objectload C hW (j := i) hA.1 rfl rfl (by omega) (by omega) (hA.2.2.2.2.trans hq) dJx4a65c_remove_915e3_16 ?_
  refine lv_astore_n (lv' := [(3, .ref q), (2, .ref ea), (0, .ref a), (1, .int (nI i))]) hx hb dJx4a65c_remove_915e3_17 rfl hl (by decide) rfl (fun ls hl => ?_)
  refine lv_aload_n hx hb dJx4a65c_remove_915e3_18 rfl (lv_at hl 2 rfl) ?_
  refine lv_aload_n hx hb dJx4a65c_remove_915e3_19 rfl (lv_at hl 1 rfl) ?_
  refine lv_iload_n hx hb dJx4a65c_remove_915e3_20 rfl (lv_at hl 3 rfl) ?_
  refine k_callVv (As := [.ref ea, .int (nI i)]) (rest := []) C hml (c_Jx4a65c_fastRemove_b59b0 h hi hel hca) (cwV 2 hts gJx4a65c_remove_915e3_Jx4a65c_fastRemove_b59b0 rfl rfl rfl (by decide +kernel) ⟨by decide, by decide⟩) hW hS hB (h.1).1 (pAt_12 (h.1).2) rfl rfl hl.1 rfl (Nat.le_of_ble_eq_true rfl) dJx4a65c_remove_915e3_21 ⟨Nat.le_of_ble_eq_true rfl, Nat.le_of_ble_eq_true rfl⟩ (fun S2 H locs hp9 hW hS => ?_)
  refine lv_aload_n hx hb dJx4a65c_remove_915e3_24 rfl (lv_at hl 0 rfl) ?_
  exact k_aret C hr hlk hW hS hB ⟨hp9, rfl⟩ (Or.inl ⟨_, rfl⟩) (Nat.le_refl _) (Nat.le_refl _) dJx4a65c_remove_915e3_25
set_option maxRecDepth 100000 in
set_option maxHeartbeats 1000000 in
theorem c_Jx4a65c_fastRemove_b59b0_L {l : Launch} {D : va_G} {cy : Nat → ClassId} {B : Nat} {s0 : State} {S : PS} {dE a ea : Nat} {L : List Nat} {i : Nat} (h : AL S dE a ea L) (hi : i < L.length) (hel : ∀ j, j < L.length → ∀ y, aQ S ea j = some y → IsAt S 5 y) (hca : va_Nw (.castable "LeaseGates$Loan" "java/lang/Object") s0) : KV l yJx4a65c_fastRemove_b59b0 wsJx4a65c_fastRemove_b59b0 ({ frames := 1, cells := 0, slots := 0, locals := 60 }) D cy B s0 [.ref a, .ref ea, .int (nI i)] S (fun S2 => ALO S S2 a ea ∧ AL S2 dE a ea (L.eraseIdx i)) 0 0 := by
  refine k_body (own := RJx4a65c) (cc := cJx4a65c_fastRemove_b59b0) (maxL := 4) (ret := none) rfl (by decide) rfl (Nat.le_of_ble_eq_true rfl) ?_
  intro p e s m below meth c C hml hr hlk hnm hB hW ls hl
  obtain ⟨hx, hb, hts, hown, hK, hEn⟩ := id C
  have hS : va_S (Aw B) s.heap s.heap [] := va_S.rf
  have hinJx4a65c : ∀ w ∈ wsJx4a65c0, w ∈ wsJx4a65c_fastRemove_b59b0 := by decide +kernel
  have l48 : Cond.fieldLink RJx4a65c 48 "java/util/ArrayList" "size" "I" ∈ wsJx4a65c_fastRemove_b59b0 := by decide +kernel
  have l63 : Cond.fieldLink RJx4a65c 63 "java/util/ArrayList" "modCount" "I" ∈ wsJx4a65c_fastRemove_b59b0 := by decide +kernel
  have hl : lv_has ls 4 [(0, .ref a), (1, .ref ea), (2, .int (nI i))] := hl
  have hA := h.arr hi
  have hl4 := h.2.2.2.1
  have hA4 := hA.2.2.2.1
  have hA3 := hA.2.2.1
  have lsm : Cond.sameField "java/util/ArrayList" "java/util/AbstractList" "modCount" "I" ∈ wsJx4a65c_fastRemove_b59b0 := by decide +kernel
  refine lv_aload_n hx hb dJx4a65c_fastRemove_b59b0_0 rfl (lv_at hl 0 rfl) ?_
  refine lv_dup hx hb dJx4a65c_fastRemove_b59b0_1 rfl ?_
  refine g_1200 C hinJx4a65c hW h.1 l63 lsm dJx4a65c_fastRemove_b59b0_2 ?_
  refine lv_iconst (v := 1) hx hb dJx4a65c_fastRemove_b59b0_5 (by decide) ?_
  refine lv_iadd hx hb dJx4a65c_fastRemove_b59b0_6 ?_
  refine p_1200 C hinJx4a65c hW hS h.1 l63 lsm dJx4a65c_fastRemove_b59b0_7 (fun S1 H locs e1 hW hS => ?_)
  subst e1
  refine lv_aload_n hx hb dJx4a65c_fastRemove_b59b0_10 rfl (lv_at hl 0 rfl) ?_
  refine g_1202 C hinJx4a65c hW h.1 l48 dJx4a65c_fastRemove_b59b0_11 ?_
  refine top_i (show fI (sI S 1200 a ((fI S 1200 a) + 1)) 1202 a = nI L.length from h.2.2.1) ?_
  refine lv_iconst (v := 1) hx hb dJx4a65c_fastRemove_b59b0_14 (by decide) ?_
  refine lv_isub hx hb dJx4a65c_fastRemove_b59b0_15 ?_
  refine top_i (show (nI L.length) - 1 = nI (L.length - 1) from pk_sub (b := 1) (by omega)) ?_
  refine lv_dup hx hb dJx4a65c_fastRemove_b59b0_16 rfl ?_
  refine lv_istore_n (lv' := [(3, .int (nI (L.length - 1))), (0, .ref a), (1, .ref ea), (2, .int (nI i))]) hx hb dJx4a65c_fastRemove_b59b0_17 rfl hl (by decide) rfl (fun ls hl => ?_)
  refine lv_iload_n hx hb dJx4a65c_fastRemove_b59b0_18 rfl (lv_at hl 3 rfl) ?_
  refine lv_icmp_le (tgt := 34) hx hb dJx4a65c_fastRemove_b59b0_19 (by decide) (fun c_19 => ?_) (fun c_19 => ?_)
  · have q_19 : (L.length - 1) ≤ i := (nI_leI (a := (L.length - 1)) (b := i) (by omega) (by omega)).mp c_19
    refine lv_aload_n hx hb dJx4a65c_fastRemove_b59b0_34 rfl (lv_at hl 2 rfl) ?_
    refine lv_aload_n hx hb dJx4a65c_fastRemove_b59b0_35 rfl (lv_at hl 1 rfl) ?_
    refine lv_iload_n hx hb dJx4a65c_fastRemove_b59b0_36 rfl (lv_at hl 0 rfl) ?_
    refine lv_dup_x1 hx hb dJx4a65c_fastRemove_b59b0_37 rfl rfl ?_
    refine p_1202 C hinJx4a65c hW hS h.1 l48 dJx4a65c_fastRemove_b59b0_38 (fun S1 H locs e1 hW hS => ?_)
    subst e1
    refine lv_null hx hb dJx4a65c_fastRemove_b59b0_41 ?_
    refine a_ObjectstoreN C hW hS (j := (L.length - 1)) hA.1 (show aN _ ea = aN S ea from rfl) rfl (by omega) (by omega) dJx4a65c_fastRemove_b59b0_42 (fun S1 H locs e1 hW hS => ?_)
    subst e1
    exact k_vret C hr hlk hW hS hB ⟨ALO.rf.f.f.q, h.out hi ALO.rf.f.f.q (show fI (sI _ 1202 a _) 1202 a = _ from sI_s) (out_b hi q_19)⟩ (Nat.le_refl _) (Nat.le_refl _) dJx4a65c_fastRemove_b59b0_43
  · have q_19 : ¬ ((L.length - 1) ≤ i) := fun z => c_19 ((nI_leI (a := (L.length - 1)) (b := i) (by omega) (by omega)).mpr z)
    refine lv_aload_n hx hb dJx4a65c_fastRemove_b59b0_22 rfl (lv_at hl 2 rfl) ?_
    refine lv_iload_n hx hb dJx4a65c_fastRemove_b59b0_23 rfl (lv_at hl 3 rfl) ?_
    refine lv_iconst (v := 1) hx hb dJx4a65c_fastRemove_b59b0_24 (by decide) ?_
    refine lv_iadd hx hb dJx4a65c_fastRemove_b59b0_25 ?_
    refine top_i (show (nI i) + 1 = nI (i + 1) from nI_add i 1) ?_
    refine lv_aload_n hx hb dJx4a65c_fastRemove_b59b0_26 rfl (lv_at hl 2 rfl) ?_
    refine lv_iload_n hx hb dJx4a65c_fastRemove_b59b0_27 rfl (lv_at hl 3 rfl) ?_
    refine lv_iload_n hx hb dJx4a65c_fastRemove_b59b0_28 rfl (lv_at hl 0 rfl) ?_
    refine lv_iload_n hx hb dJx4a65c_fastRemove_b59b0_29 rfl (lv_at hl 3 rfl) ?_
    refine lv_isub hx hb dJx4a65c_fastRemove_b59b0_30 ?_
    refine k_copy5 (sp := i + 1) (dp := i) (n := L.length - 1 - i) (N := aN S ea) C (hml.trans hl.1.symm) (by decide +kernel) (by decide +kernel) (by decide +kernel) (by decide +kernel) hca hW hS hA.1 (show aN _ ea = aN S ea from rfl) (by omega) rfl rfl (by rw [pk_sub (by omega)]) (by omega) (by omega) (fun j hj y hy => hel _ (by omega) y hy) (by decide) (by decide) dJx4a65c_fastRemove_b59b0_31 (fun S1 H locs e1 hW hS => ?_)
    subst e1
    refine lv_aload_n hx hb dJx4a65c_fastRemove_b59b0_34 rfl (lv_at hl 2 rfl) ?_
    refine lv_aload_n hx hb dJx4a65c_fastRemove_b59b0_35 rfl (lv_at hl 1 rfl) ?_
    refine lv_iload_n hx hb dJx4a65c_fastRemove_b59b0_36 rfl (lv_at hl 0 rfl) ?_
    refine lv_dup_x1 hx hb dJx4a65c_fastRemove_b59b0_37 rfl rfl ?_
    refine p_1202 C hinJx4a65c hW hS h.1 l48 dJx4a65c_fastRemove_b59b0_38 (fun S1 H locs e1 hW hS => ?_)
    subst e1
    refine lv_null hx hb dJx4a65c_fastRemove_b59b0_41 ?_
    refine a_ObjectstoreN C hW hS (j := (L.length - 1)) hA.1 (show aN _ ea = aN S ea from rfl) rfl (by omega) (by omega) dJx4a65c_fastRemove_b59b0_42 (fun S1 H locs e1 hW hS => ?_)
    subst e1
    exact k_vret C hr hlk hW hS hB ⟨ALO.rf.f.c.f.q, h.out hi ALO.rf.f.c.f.q (show fI (sI _ 1202 a _) 1202 a = _ from sI_s) (out_a hi (by omega))⟩ (Nat.le_refl _) (Nat.le_refl _) dJx4a65c_fastRemove_b59b0_43
set_option maxRecDepth 100000 in
set_option maxHeartbeats 1000000 in
theorem c_Jx4a65c_remove_915e3_L {l : Launch} {D : va_G} {cy : Nat → ClassId} {B : Nat} {s0 : State} {S : PS} {dE a ea : Nat} {L : List Nat} {i q : Nat} (h : AL S dE a ea L) (hi : i < L.length) (hq : L[i]? = some q) (hel : ∀ j, j < L.length → ∀ y, aQ S ea j = some y → IsAt S 5 y) (hca : va_Nw (.castable "LeaseGates$Loan" "java/lang/Object") s0) : KQ l yJx4a65c_remove_915e3 wsJx4a65c_remove_915e3 ({ frames := 2, cells := 0, slots := 0, locals := 83 }) D cy B s0 [.ref a, .int (nI i)] S (fun r S2 => (ALO S S2 a ea ∧ AL S2 dE a ea (L.eraseIdx i)) ∧ r = some q) 0 0 := by
  refine k_body (own := RJx4a65c) (cc := cJx4a65c_remove_915e3) (maxL := 4) (ret := (some (.object "java/lang/Object"))) rfl (by decide) rfl (Nat.le_of_ble_eq_true rfl) ?_
  intro p e s m below meth c C hml hr hlk hnm hB hW ls hl
  obtain ⟨hx, hb, hts, hown, hK, hEn⟩ := id C
  have hS : va_S (Aw B) s.heap s.heap [] := va_S.rf
  have hinJx4a65c : ∀ w ∈ wsJx4a65c0, w ∈ wsJx4a65c_remove_915e3 := by decide +kernel
  have l9 : Cond.fieldLink RJx4a65c 9 "java/util/ArrayList" "elementData" "[Ljava/lang/Object;" ∈ wsJx4a65c_remove_915e3 := by decide +kernel
  have l48 : Cond.fieldLink RJx4a65c 48 "java/util/ArrayList" "size" "I" ∈ wsJx4a65c_remove_915e3 := by decide +kernel
  have hl : lv_has ls 4 [(0, .ref a), (1, .int (nI i))] := hl
  have hA := h.arr hi
  have hl4 := h.2.2.2.1
  refine lv_iload_n hx hb dJx4a65c_remove_915e3_0 rfl (lv_at hl 1 rfl) ?_
  refine lv_aload_n hx hb dJx4a65c_remove_915e3_1 rfl (lv_at hl 0 rfl) ?_
  refine g_1202 C hinJx4a65c hW h.1 l48 dJx4a65c_remove_915e3_2 ?_
  refine top_i (show fI S 1202 a = nI L.length from h.2.2.1) ?_
  refine k_callSi (As := [.int (nI i), .int (nI L.length)]) (rest := []) C hml (c_J15_checkIndex_7cf53 hi (by omega)) (va_cwS 2 hts gJx4a65c_remove_915e3_J15_checkIndex_7cf53 rfl rfl rfl (by decide +kernel) ⟨by decide, by decide⟩) hW hS hB rfl hl.1 rfl (Nat.le_of_ble_eq_true rfl) dJx4a65c_remove_915e3_5 ⟨Nat.le_of_ble_eq_true rfl, Nat.le_of_ble_eq_true rfl⟩ (fun r9 S1 H locs hp9 hW hS => ?_)
  obtain ⟨e8, e9⟩ := hp9
  rw [e8] at hW
  subst e9
  refine lv_pop hx hb dJx4a65c_remove_915e3_8 rfl ?_
  refine lv_aload_n hx hb dJx4a65c_remove_915e3_9 rfl (lv_at hl 0 rfl) ?_
  refine g_1201 C hinJx4a65c hW h.1 h.2.1 l9 dJx4a65c_remove_915e3_10 ?_
  refine lv_astore_n (lv' := [(2, .ref ea), (0, .ref a), (1, .int (nI i))]) hx hb dJx4a65c_remove_915e3_13 rfl hl (by decide) rfl (fun ls hl => ?_)
  refine lv_aload_n hx hb dJx4a65c_remove_915e3_14 rfl (lv_at hl 0 rfl) ?_
  refine lv_iload_n hx hb dJx4a65c_remove_915e3_15 rfl (lv_at hl 2 rfl) ?_
  refine a_Objectload C hW (j := i) hA.1 rfl rfl (by omega) (by omega) (hA.2.2.2.2.trans hq) dJx4a65c_remove_915e3_16 ?_
  refine lv_astore_n (lv' := [(3, .ref q), (2, .ref ea), (0, .ref a), (1, .int (nI i))]) hx hb dJx4a65c_remove_915e3_17 rfl hl (by decide) rfl (fun ls hl => ?_)
  refine lv_aload_n hx hb dJx4a65c_remove_915e3_18 rfl (lv_at hl 2 rfl) ?_
  refine lv_aload_n hx hb dJx4a65c_remove_915e3_19 rfl (lv_at hl 1 rfl) ?_
  refine lv_iload_n hx hb dJx4a65c_remove_915e3_20 rfl (lv_at hl 3 rfl) ?_
  refine k_callVv (As := [.ref ea, .int (nI i)]) (rest := []) C hml (c_Jx4a65c_fastRemove_b59b0_L h hi hel hca) (cwV 2 hts gJx4a65c_remove_915e3_Jx4a65c_fastRemove_b59b0 rfl rfl rfl (by decide +kernel) ⟨by decide, by decide⟩) hW hS hB (h.1).1 (pAt_12 (h.1).2) rfl rfl hl.1 rfl (Nat.le_of_ble_eq_true rfl) dJx4a65c_remove_915e3_21 ⟨Nat.le_of_ble_eq_true rfl, Nat.le_of_ble_eq_true rfl⟩ (fun S2 H locs hp9 hW hS => ?_)
  refine lv_aload_n hx hb dJx4a65c_remove_915e3_24 rfl (lv_at hl 0 rfl) ?_
  exact k_aret C hr hlk hW hS hB ⟨hp9, rfl⟩ (Or.inl ⟨_, rfl⟩) (Nat.le_refl _) (Nat.le_refl _) dJx4a65c_remove_915e3_25
