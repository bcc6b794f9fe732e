section L3
variable {p : Program} {l : Launch} {e : Env} {R : Room} {s : State} {m : MethodId} {args : Array Value} {below : List Frame} {meth : Method} {c : Code} {H : Heap} {locs : List Loc} {cells slots : Nat} {Q : State → Prop} {cc : ByteArray} {pc : Nat} {ls : Array Slot} {rest : List Value} {D : va_G} {cy : Nat → ClassId} {B : Nat} {S : PS} {Ts : List Cond} {own : String} {H0 : Heap} {s0 : State}
def cR (S : PS) (a b sp dp n : Nat) : PS := (S.1, S.2.1, (aN S, aI S, aJ S, va_up (aQ S) b (va_cpy (aQ S a) (aQ S b) sp dp n)))
theorem cR_off {cy : Nat → ClassId} {S : PS} {a0 a sp dp n : Nat} (b : Nat) (h : b ≠ a) : pF cy (cR S a0 a sp dp n) b = pF cy S b := by
  show pE cy (pK S b) _ _ _ (aN S b) (aI S b) (aJ S b) (va_up (aQ S) a (va_cpy (aQ S a0) (aQ S a) sp dp n) b) = _
  rw [va_up_ne _ _ h]
  rfl
theorem cR_s {S : PS} {a b sp dp n : Nat} : aQ (cR S a b sp dp n) b = va_cpy (aQ S a) (aQ S b) sp dp n := by show va_up (aQ S) b _ b = _; simp [va_up]
theorem cR_a {S : PS} {a b sp dp n x : Nat} (h : x ≠ b) : aQ (cR S a b sp dp n) x = aQ S x := by show va_up (aQ S) b _ x = _; rw [va_up_ne _ _ h]
theorem k_cpy4 (C : Cx p s m args c cc Ts own D cy B s0) (hml : c.maxLocals = ls.size) {index a b sp dp n N M : Nat} {isp idp inn : Int32} (h1 : Cond.methodLink own index arraycopyName ∈ Ts) (h2 : Cond.native arraycopyName ∈ Ts) (h3 : Cond.static arraycopyName ∈ Ts) (h4 : Cond.initialized "java/lang/System" ∈ Ts) (hca : va_Nw (.castable "LeaseGates$Hold" "java/lang/Object") s0) (hW : PW D cy B S H) (hS : va_S (Aw B) H0 H locs) (hA : IsAt S 21 a) (hN : aN S a = N) (hN3 : N < 2 ^ 31) (hA2 : IsAt S 21 b) (hM : aN S b = M) (hM3 : M < 2 ^ 31) (e1 : isp = nI sp) (e2 : idp = nI dp) (e3 : inn = nI n) (g1 : sp + n ≤ N) (g2 : dp + n ≤ M) (hel : ∀ i, i < n → ∀ y, aQ S a (sp + i) = some y → IsAt S 4 y) (hfr : 1 ≤ R.frames) (hlo : (rest.map fun v => v.category).sum + (nativeFrameWords "java/lang/System" "arraycopy" 5 + 11) ≤ R.locals) (hdg : decode cc pc = .ok (.invokestatic index, 3)) (kk : ∀ (S1 : PS) (H1 : Heap) (locs1 : List Loc), S1 = cR S a b sp dp n → PW D cy B S1 H1 → va_S (Aw B) H0 H1 locs1 → W p l e R s m args below meth c H1 locs1 cells slots Q (F0 m (pc + 3) ls rest)) : W p l e R s m args below meth c H locs cells slots Q (F0 m pc ls (.int inn :: .int idp :: .ref b :: .int isp :: .ref a :: rest)) := by
  subst e1 e2 e3 hN hM
  obtain ⟨hx, hb, hts, hown, hK, hEn⟩ := C
  obtain ⟨hP, hD⟩ := hW
  obtain ⟨k9, hk9⟩ := va_pl_get (X := []) (f := pF cy S) hA.1
  rw [pAt_21 hA.2] at hk9
  obtain ⟨k0, hk0⟩ := va_pl_get (X := []) (f := pF cy S) hA2.1
  have hk1 := hk0
  rw [pAt_21 hA2.2] at hk0
  have c1 : (nI sp).toNatClampNeg = sp := nI_clamp (by omega)
  have c2 : (nI dp).toNatClampNeg = dp := nI_clamp (by omega)
  have c3 : (nI n).toNatClampNeg = n := nI_clamp (by omega)
  refine va_copyq (C := "LeaseGates$Hold") hx hb hml hown (hts _ h1) (hts _ h2) (hts _ h3) (hts _ h4) hK hP hD hS k9 k0 8 8 hk9 hk0 rfl rfl (nI_pos (by omega)) (nI_pos (by omega)) (nI_pos (by omega)) (by rw [c1, c3]; exact g1) (by rw [c2, c3]; exact g2) (fun i hi y hy => ?_) (fun comp c0 f1 f2 => ?_) hfr hlo hdg (fun H1 locs1 hP1 hD1 hS1 => ?_)
  · rw [c3] at hi
    rw [c1] at hy
    have hq := hel i hi y hy
    obtain ⟨k2, hk2⟩ := va_pl_get (X := []) (f := pF cy S) hq.1
    rw [pAt_4 hq.2] at hk2
    exact va_recv hK hP (ci := 5) (q0 := k2) rfl hk2
  · obtain ⟨c3, t3, w1, w2, w3⟩ := Cond.castable_spec (va_Nw.use (A := args) rfl (castW hEn hca))
    cases Option.some.inj (w1.symm.trans f2)
    cases Option.some.inj (w2.symm.trans f1)
    exact w3
  · rw [c1, c2, c3] at hP1 hD1
    rw [pw_set (S2 := cR S a b sp dp n) hD hA2.1 hk1 rfl (pF_up cR_off (by rw [pAt_21 (S := cR S a b sp dp n) hA2.2]; rw [cR_s]; rfl))] at hP1 hD1
    exact kk _ H1 locs1 rfl ⟨hP1, hD1⟩ hS1
theorem k_cpy5 (C : Cx p s m args c cc Ts own D cy B s0) (hml : c.maxLocals = ls.size) {index a b sp dp n N M : Nat} {isp idp inn : Int32} (h1 : Cond.methodLink own index arraycopyName ∈ Ts) (h2 : Cond.native arraycopyName ∈ Ts) (h3 : Cond.static arraycopyName ∈ Ts) (h4 : Cond.initialized "java/lang/System" ∈ Ts) (hca : va_Nw (.castable "LeaseGates$Loan" "java/lang/Object") s0) (hW : PW D cy B S H) (hS : va_S (Aw B) H0 H locs) (hA : IsAt S 21 a) (hN : aN S a = N) (hN3 : N < 2 ^ 31) (hA2 : IsAt S 21 b) (hM : aN S b = M) (hM3 : M < 2 ^ 31) (e1 : isp = nI sp) (e2 : idp = nI dp) (e3 : inn = nI n) (g1 : sp + n ≤ N) (g2 : dp + n ≤ M) (hel : ∀ i, i < n → ∀ y, aQ S a (sp + i) = some y → IsAt S 5 y) (hfr : 1 ≤ R.frames) (hlo : (rest.map fun v => v.category).sum + (nativeFrameWords "java/lang/System" "arraycopy" 5 + 11) ≤ R.locals) (hdg : decode cc pc = .ok (.invokestatic index, 3)) (kk : ∀ (S1 : PS) (H1 : Heap) (locs1 : List Loc), S1 = cR S a b sp dp n → PW D cy B S1 H1 → va_S (Aw B) H0 H1 locs1 → W p l e R s m args below meth c H1 locs1 cells slots Q (F0 m (pc + 3) ls rest)) : W p l e R s m args below meth c H locs cells slots Q (F0 m pc ls (.int inn :: .int idp :: .ref b :: .int isp :: .ref a :: rest)) := by
  subst e1 e2 e3 hN hM
  obtain ⟨hx, hb, hts, hown, hK, hEn⟩ := C
  obtain ⟨hP, hD⟩ := hW
  obtain ⟨k9, hk9⟩ := va_pl_get (X := []) (f := pF cy S) hA.1
  rw [pAt_21 hA.2] at hk9
  obtain ⟨k0, hk0⟩ := va_pl_get (X := []) (f := pF cy S) hA2.1
  have hk1 := hk0
  rw [pAt_21 hA2.2] at hk0
  have c1 : (nI sp).toNatClampNeg = sp := nI_clamp (by omega)
  have c2 : (nI dp).toNatClampNeg = dp := nI_clamp (by omega)
  have c3 : (nI n).toNatClampNeg = n := nI_clamp (by omega)
  refine va_copyq (C := "LeaseGates$Loan") hx hb hml hown (hts _ h1) (hts _ h2) (hts _ h3) (hts _ h4) hK hP hD hS k9 k0 8 8 hk9 hk0 rfl rfl (nI_pos (by omega)) (nI_pos (by omega)) (nI_pos (by omega)) (by rw [c1, c3]; exact g1) (by rw [c2, c3]; exact g2) (fun i hi y hy => ?_) (fun comp c0 f1 f2 => ?_) hfr hlo hdg (fun H1 locs1 hP1 hD1 hS1 => ?_)
  · rw [c3] at hi
    rw [c1] at hy
    have hq := hel i hi y hy
    obtain ⟨k2, hk2⟩ := va_pl_get (X := []) (f := pF cy S) hq.1
    rw [pAt_5 hq.2] at hk2
    exact va_recv hK hP (ci := 6) (q0 := k2) rfl hk2
  · obtain ⟨c3, t3, w1, w2, w3⟩ := Cond.castable_spec (va_Nw.use (A := args) rfl (castW hEn hca))
    cases Option.some.inj (w1.symm.trans f2)
    cases Option.some.inj (w2.symm.trans f1)
    exact w3
  · rw [c1, c2, c3] at hP1 hD1
    rw [pw_set (S2 := cR S a b sp dp n) hD hA2.1 hk1 rfl (pF_up cR_off (by rw [pAt_21 (S := cR S a b sp dp n) hA2.2]; rw [cR_s]; rfl))] at hP1 hD1
    exact kk _ H1 locs1 rfl ⟨hP1, hD1⟩ hS1
theorem k_mirror (C : Cx p s m args c cc Ts own D cy B s0) {index mi : Nat} (h1 : Cond.classLink own index "[Ljava/lang/Object;" ∈ Ts) (hM : va_Mi "[Ljava/lang/Object;" mi s0) (hdg : decode cc pc = .ok (.ldc index, 2)) (kk : W p l e R s m args below meth c H locs cells slots Q (F0 m (pc + 2) ls (.ref mi :: rest))) : W p l e R s m args below meth c H locs cells slots Q (F0 m pc ls rest) := by
  obtain ⟨hx, hb, hts, hown, hK, hEn⟩ := C
  exact va_ldcM hx hb hown (hts _ h1) (hM.moved hEn.1) hdg kk
theorem k_getC (C : Cx p s m args c cc Ts own D cy B s0) (hml : c.maxLocals = ls.size) {index a mi : Nat} (h1 : Cond.methodLink own index ⟨"java/lang/Object", "getClass", "()Ljava/lang/Class;"⟩ ∈ Ts) (h2 : va_Dc s0) (h3 : Cond.selects "[Ljava/lang/Object;" ⟨"java/lang/Object", "getClass", "()Ljava/lang/Class;"⟩ ⟨"java/lang/Object", "getClass", "()Ljava/lang/Class;"⟩ ∈ Ts) (h4 : Cond.instanceMethod ⟨"java/lang/Object", "getClass", "()Ljava/lang/Class;"⟩ ∈ Ts) (h5 : Cond.native ⟨"java/lang/Object", "getClass", "()Ljava/lang/Class;"⟩ ∈ Ts) (hM : va_Mi "[Ljava/lang/Object;" mi s0) (hW : PW D cy B S H) (hA : IsAt S 21 a) (hfr : 1 ≤ R.frames) (hlo : (rest.map fun v => v.category).sum + 14 ≤ R.locals) (hdg : decode cc pc = .ok (.invokevirtual index, 3)) (kk : W p l e R s m args below meth c H locs cells slots Q (F0 m (pc + 3) ls (.ref mi :: rest))) : W p l e R s m args below meth c H locs cells slots Q (F0 m pc ls (.ref a :: rest)) := by
  obtain ⟨hx, hb, hts, hown, hK, hEn⟩ := C
  obtain ⟨k0, hk0⟩ := va_pl_get (X := []) (f := pF cy S) hA.1
  rw [pAt_21 hA.2] at hk0
  exact va_getC hx hb hml hown (hts _ h1) (va_Dc.use (h2.moved hEn.1)) (hts _ h3) (hts _ h4) (hts _ h5) (hM.moved hEn.1) ⟨_, hW.1 k0 _ hk0, rfl, va_nmO (hK.2 8 (cy 8, .object "java/lang/Object") rfl).2 rfl⟩ hfr hlo hdg kk
end L3
theorem if_pos_min (n k : Nat) (h : n ≤ k) (hk : k ≤ 1050) : (if nI k < nI n then nI k else nI n) = nI n := if_neg (nI_nlt h (by omega))
set_option maxRecDepth 100000 in
set_option maxHeartbeats 1000000 in
theorem c_J8_newLength_cabcc {l : Launch} {D : va_G} {cy : Nat → ClassId} {B : Nat} {s0 : State} {S : PS} {n : Nat} (h1 : 10 ≤ n) (h2 : n ≤ 700) : KI l yJ8_newLength_cabcc wsJ8_newLength_cabcc ({ frames := 1, cells := 0, slots := 0, locals := 30 }) D cy B s0 [.int (nI n), .int (nI 1), .int (nI (n / 2))] S (fun r S2 => S2 = S ∧ r = nI (n + n / 2)) 0 0 := by
  refine k_body (own := RJ8) (cc := cJ8_newLength_cabcc) (maxL := 4) (ret := (some .int)) rfl (by decide) rfl (Nat.le_of_ble_eq_true rfl) ?_
  intro p e s m below meth c C hml hr hlk hnm hB hW ls hl
  obtain ⟨hx, hb, hts, hown, hK, hEn⟩ := id C
  have hS : va_S (Aw B) s.heap s.heap [] := va_S.rf
  have l200 : Cond.constant RJ8 200 (2147483639) ∈ wsJ8_newLength_cabcc := by decide +kernel
  have hl : lv_has ls 4 [(0, .int (nI n)), (1, .int (nI 1)), (2, .int (nI (n / 2)))] := hl
  refine lv_iload_n hx hb dJ8_newLength_cabcc_0 rfl (lv_at hl 0 rfl) ?_
  refine lv_iload_n hx hb dJ8_newLength_cabcc_1 rfl (lv_at hl 1 rfl) ?_
  refine lv_iload_n hx hb dJ8_newLength_cabcc_2 rfl (lv_at hl 2 rfl) ?_
  refine va_mmax hx hb (hml.trans hl.1.symm) hown (hts (.methodLink RJ8 194 Lib.Math.max.name) (by decide +kernel)) (hts (.static Lib.Math.max.name) (by decide +kernel)) (hts (.initialized "java/lang/Math") (by decide +kernel)) (hts (.code Lib.Math.max.name Lib.Math.max.code 2 (some .int)) (by decide +kernel)) (by decide) (Nat.le_of_ble_eq_true rfl) (Nat.le_of_ble_eq_true rfl) (Nat.le_of_ble_eq_true rfl) dJ8_newLength_cabcc_3 ?_
  refine lv_iadd hx hb dJ8_newLength_cabcc_6 ?_
  refine top_i (show (nI n) + (iMax (nI 1) (nI (n / 2))) = nI (n + n / 2) from (by rw [show iMax (nI 1) (nI (n / 2)) = nI (n / 2) from if_pos (nI_lt (by omega) (by omega))]; exact nI_add n (n / 2))) ?_
  refine lv_istore_n (lv' := [(3, .int (nI (n + n / 2))), (0, .int (nI n)), (1, .int (nI 1)), (2, .int (nI (n / 2)))]) hx hb dJ8_newLength_cabcc_7 rfl hl (by decide) rfl (fun ls hl => ?_)
  refine lv_iconst (v := 0) hx hb dJ8_newLength_cabcc_8 (by decide) ?_
  refine lv_iload_n hx hb dJ8_newLength_cabcc_9 rfl (lv_at hl 0 rfl) ?_
  refine lv_icmp_ge (tgt := 21) hx hb dJ8_newLength_cabcc_10 (by decide) (fun c_10 => absurd c_10 (nI_nle (by omega) (by omega))) (fun c_10 => ?_)
  have q_10 : ¬ ((n + n / 2) ≤ 0) := fun z => c_10 ((nI_leI (a := (n + n / 2)) (b := 0) (by omega) (by omega)).mpr z)
  refine lv_iload_n hx hb dJ8_newLength_cabcc_13 rfl (lv_at hl 0 rfl) ?_
  refine lv_ldc hx hb hown (hts _ l200) dJ8_newLength_cabcc_14 ?_
  refine lv_icmp_gt (tgt := 21) hx hb dJ8_newLength_cabcc_16 (by decide) (fun c_16 => absurd c_16 (Int32.not_lt.mpr (show nI (n + n / 2) ≤ nI 2147483639 from nI_le (by omega) (by omega)))) (fun c_16 => ?_)
  have q_16 : ¬ (2147483639 < (n + n / 2)) := fun z => c_16 ((nI_ltI (a := 2147483639) (b := (n + n / 2)) (by omega) (by omega)).mpr z)
  refine lv_iload_n hx hb dJ8_newLength_cabcc_19 rfl (lv_at hl 0 rfl) ?_
  exact k_iret C hr hlk hW hS hB ⟨rfl, rfl⟩ (Nat.le_refl _) (Nat.le_refl _) dJ8_newLength_cabcc_20
set_option maxRecDepth 100000 in
set_option maxHeartbeats 1000000 in
theorem c_J7_copyOf_6403c {l : Launch} {D : va_G} {cy : Nat → ClassId} {B : Nat} {s0 : State} {S : PS} {ea n k mi : Nat} (h : IsAt S 21 ea) (hn : aN S ea = n) (hn1 : n ≤ k) (hk : k ≤ 1050) (hel : ∀ j, j < n → ∀ y, aQ S ea j = some y → IsAt S 4 y) (hca : va_Nw (.castable "LeaseGates$Hold" "java/lang/Object") s0) (hMi : va_Mi "[Ljava/lang/Object;" mi s0) (hDc : va_Dc s0) (hAO : va_AO "java/lang/Object" s0) : KQ l yJ7_copyOf_6403c wsJ7_copyOf_6403c ({ frames := 1, cells := 1, slots := 1100, locals := 60 }) D cy B s0 [.ref ea, .int (nI k), .ref mi] S (fun r S2 => ∃ q, q ∉ pL S ∧ r = some q ∧ S2 = cR (nA S q 21 k) ea q 0 0 n) 1 1100 := by
  refine k_body (own := RJ7) (cc := cJ7_copyOf_6403c) (maxL := 4) (ret := (some (.array (.object "java/lang/Object")))) rfl (by decide) rfl (Nat.le_of_ble_eq_true rfl) ?_
  intro p e s m below meth c C hml hr hlk hnm hB hW ls hl
  obtain ⟨hx, hb, hts, hown, hK, hEn⟩ := id C
  have hS : va_S (Aw B) s.heap s.heap [] := va_S.rf
  have hl : lv_has ls 4 [(0, .ref ea), (1, .int (nI k)), (2, .ref mi)] := hl
  refine lv_aload_n hx hb dJ7_copyOf_6403c_0 rfl (lv_at hl 2 rfl) ?_
  refine k_mirror C (show Cond.classLink RJ7 110 "[Ljava/lang/Object;" ∈ wsJ7_copyOf_6403c by decide +kernel) hMi dJ7_copyOf_6403c_1 ?_
  refine lv_acmp_ne (rx := some mi) (ry := some mi) (tgt := 13) hx hb dJ7_copyOf_6403c_3 (by decide) (fun z9 => absurd rfl z9) (fun _ => ?_)
  refine lv_iload_n hx hb dJ7_copyOf_6403c_6 rfl (lv_at hl 1 rfl) ?_
  refine n_21 C hW hS hB (N := k) (show Cond.classLink RJ7 2 "java/lang/Object" ∈ wsJ7_copyOf_6403c by decide +kernel) (hAO.moved hEn.1) rfl (by omega) (Nat.le_of_ble_eq_true rfl) (by show _ ≤ 1100; omega) dJ7_copyOf_6403c_7 (fun q S1 H e1 qn hW hS => ?_)
  subst e1
  refine lv_goto (tgt := 24) hx hb dJ7_copyOf_6403c_10 (by decide) ?_
  refine lv_astore_n (lv' := [(3, .ref q), (0, .ref ea), (1, .int (nI k)), (2, .ref mi)]) hx hb dJ7_copyOf_6403c_24 rfl hl (by decide) rfl (fun ls hl => ?_)
  refine lv_aload_n hx hb dJ7_copyOf_6403c_25 rfl (lv_at hl 1 rfl) ?_
  refine lv_iconst (v := 0) hx hb dJ7_copyOf_6403c_26 (by decide) ?_
  refine lv_aload_n hx hb dJ7_copyOf_6403c_27 rfl (lv_at hl 0 rfl) ?_
  refine lv_iconst (v := 0) hx hb dJ7_copyOf_6403c_28 (by decide) ?_
  refine lv_aload_n hx hb dJ7_copyOf_6403c_29 rfl (lv_at hl 1 rfl) ?_
  refine a_Objectlen (v := nI n) C hW (nA_ext qn _ _ h) (by rw [nA_aNa (fun z => qn (by rw [← z]; exact h.1)), hn]) dJ7_copyOf_6403c_30 ?_
  refine lv_iload_n hx hb dJ7_copyOf_6403c_31 rfl (lv_at hl 2 rfl) ?_
  refine va_mmin hx hb (hml.trans hl.1.symm) hown (hts (.methodLink RJ7 304 Lib.Math.min.name) (by decide +kernel)) (hts (.static Lib.Math.min.name) (by decide +kernel)) (hts (.initialized "java/lang/Math") (by decide +kernel)) (hts (.code Lib.Math.min.name Lib.Math.min.code 2 (some .int)) (by decide +kernel)) (by decide) (Nat.le_of_ble_eq_true rfl) (Nat.le_of_ble_eq_true rfl) (by show _ ≤ 1100; omega) dJ7_copyOf_6403c_32 ?_
  refine k_cpy4 (sp := 0) (dp := 0) (n := n) (N := n) (M := k) C (hml.trans hl.1.symm) (by decide +kernel) (by decide +kernel) (by decide +kernel) (by decide +kernel) hca hW hS (nA_ext qn _ _ h) (by rw [nA_aNa (fun z => qn (by rw [← z]; exact h.1)), hn]) (by omega) nA_is nA_aN (by omega) rfl rfl (if_pos_min n k hn1 hk) (by omega) (by omega) (fun j hj y hy => nA_ext qn _ _ (hel j hj y (by rw [nA_aQa (fun z => qn (by rw [← z]; exact h.1)), Nat.zero_add] at hy; exact hy))) (by decide) (by decide) dJ7_copyOf_6403c_35 (fun S1 H locs e1 hW hS => ?_)
  subst e1
  refine lv_aload_n hx hb dJ7_copyOf_6403c_38 rfl (lv_at hl 0 rfl) ?_
  exact k_aret C hr hlk hW hS hB ⟨q, qn, rfl, rfl⟩ (Or.inr ⟨_, rfl⟩) (Nat.le_refl _) (by show _ ≤ 1100; omega) dJ7_copyOf_6403c_39
set_option maxRecDepth 100000 in
set_option maxHeartbeats 1000000 in
theorem c_J7_copyOf_1904c {l : Launch} {D : va_G} {cy : Nat → ClassId} {B : Nat} {s0 : State} {S : PS} {ea n k mi : Nat} (h : IsAt S 21 ea) (hn : aN S ea = n) (hn1 : n ≤ k) (hk : k ≤ 1050) (hel : ∀ j, j < n → ∀ y, aQ S ea j = some y → IsAt S 4 y) (hca : va_Nw (.castable "LeaseGates$Hold" "java/lang/Object") s0) (hMi : va_Mi "[Ljava/lang/Object;" mi s0) (hDc : va_Dc s0) (hAO : va_AO "java/lang/Object" s0) : KQ l yJ7_copyOf_1904c wsJ7_copyOf_1904c ({ frames := 2, cells := 1, slots := 1100, locals := 83 }) D cy B s0 [.ref ea, .int (nI k)] S (fun r S2 => ∃ q, q ∉ pL S ∧ r = some q ∧ S2 = cR (nA S q 21 k) ea q 0 0 n) 1 1100 := by
  refine k_body (own := RJ7) (cc := cJ7_copyOf_1904c) (maxL := 2) (ret := (some (.array (.object "java/lang/Object")))) rfl (by decide) rfl (Nat.le_of_ble_eq_true rfl) ?_
  intro p e s m below meth c C hml hr hlk hnm hB hW ls hl
  obtain ⟨hx, hb, hts, hown, hK, hEn⟩ := id C
  have hS : va_S (Aw B) s.heap s.heap [] := va_S.rf
  have hl : lv_has ls 2 [(0, .ref ea), (1, .int (nI k))] := hl
  refine lv_aload_n hx hb dJ7_copyOf_1904c_0 rfl (lv_at hl 0 rfl) ?_
  refine lv_iload_n hx hb dJ7_copyOf_1904c_1 rfl (lv_at hl 1 rfl) ?_
  refine lv_aload_n hx hb dJ7_copyOf_1904c_2 rfl (lv_at hl 0 rfl) ?_
  refine k_getC C (hml.trans hl.1.symm) (show Cond.methodLink RJ7 86 ⟨"java/lang/Object", "getClass", "()Ljava/lang/Class;"⟩ ∈ wsJ7_copyOf_1904c by decide +kernel) hDc (by decide +kernel) (by decide +kernel) (by decide +kernel) hMi hW h (by decide) (Nat.le_of_ble_eq_true rfl) dJ7_copyOf_1904c_3 ?_
  refine k_callSq (As := [.ref ea, .int (nI k), .ref mi]) (rest := []) C hml (c_J7_copyOf_6403c h hn hn1 hk hel hca hMi hDc hAO) (va_cwS 3 hts gJ7_copyOf_1904c_J7_copyOf_6403c rfl rfl rfl (by decide +kernel) ⟨by decide, by decide⟩) hW hS hB rfl hl.1 rfl (Nat.le_of_ble_eq_true rfl) dJ7_copyOf_1904c_6 ⟨Nat.le_of_ble_eq_true rfl, Nat.le_of_ble_eq_true rfl⟩ (fun r9 S1 H locs hp9 hW hS => ?_)
  obtain ⟨q, qn, e9, hq9⟩ := hp9
  subst e9
  exact k_aret C hr hlk hW hS hB ⟨q, qn, rfl, hq9⟩ (Or.inr ⟨_, rfl⟩) (Nat.le_refl _) (Nat.le_refl _) dJ7_copyOf_1904c_9
set_option maxRecDepth 100000 in
set_option maxHeartbeats 1000000 in
theorem c_Jx4a65c_grow_92f84 {l : Launch} {D : va_G} {cy : Nat → ClassId} {B : Nat} {s0 : State} {S : PS} {dE a ea mi : Nat} {L : List Nat} (h : AL S dE a ea L) (hf : aN S ea = L.length) (hA : IsAt S 21 ea) (h10 : 10 ≤ L.length) (hel : ∀ j, j < L.length → ∀ y, aQ S ea j = some y → IsAt S 4 y) (hca : va_Nw (.castable "LeaseGates$Hold" "java/lang/Object") s0) (hMi : va_Mi "[Ljava/lang/Object;" mi s0) (hDc : va_Dc s0) (hAO : va_AO "java/lang/Object" s0) : KQ l yJx4a65c_grow_92f84 wsJx4a65c_grow_92f84 ({ frames := 3, cells := 1, slots := 1100, locals := 104 }) D cy B s0 [.ref a, .int (nI (L.length + 1))] S (fun r S2 => ∃ q, q ∉ pL S ∧ r = some q ∧ S2 = sR (cR (nA S q 21 (L.length + L.length / 2)) ea q 0 0 L.length) 1201 a (some q)) 1 1100 := by
  refine k_body (own := RJx4a65c) (cc := cJx4a65c_grow_92f84) (maxL := 4) (ret := (some (.array (.object "java/lang/Object")))) rfl (by decide) rfl (Nat.le_of_ble_eq_true rfl) ?_
  intro p e s m below meth c C hml hr hlk hnm hB hW ls hl
  obtain ⟨hx, hb, hts, hown, hK, hEn⟩ := id C
  have hS : va_S (Aw B) s.heap s.heap [] := va_S.rf
  have hinJx4a65c : ∀ w ∈ wsJx4a65c0, w ∈ wsJx4a65c_grow_92f84 := by decide +kernel
  have l9 : Cond.fieldLink RJx4a65c 9 "java/util/ArrayList" "elementData" "[Ljava/lang/Object;" ∈ wsJx4a65c_grow_92f84 := by decide +kernel
  have hl : lv_has ls 4 [(0, .ref a), (1, .int (nI (L.length + 1)))] := hl
  have hl4 := h.2.2.2.1
  refine lv_aload_n hx hb dJx4a65c_grow_92f84_0 rfl (lv_at hl 0 rfl) ?_
  refine g_1201 C hinJx4a65c hW h.1 h.2.1 l9 dJx4a65c_grow_92f84_1 ?_
  refine a_Objectlen (v := nI L.length) C hW hA (by rw [hf]) dJx4a65c_grow_92f84_4 ?_
  refine lv_istore_n (lv' := [(2, .int (nI L.length)), (0, .ref a), (1, .int (nI (L.length + 1)))]) hx hb dJx4a65c_grow_92f84_5 rfl hl (by decide) rfl (fun ls hl => ?_)
  refine lv_iload_n hx hb dJx4a65c_grow_92f84_6 rfl (lv_at hl 0 rfl) ?_
  refine lv_if_gt (tgt := 20) hx hb dJx4a65c_grow_92f84_7 (by decide) (fun c_7 => ?_) (fun c_7 => absurd (nI_lt (a := 0) (by omega) (by omega)) c_7)
  have q_7 : 0 < L.length := (nI_ltI (a := 0) (b := L.length) (by omega) (by omega)).mp c_7
  refine lv_iload_n hx hb dJx4a65c_grow_92f84_20 rfl (lv_at hl 0 rfl) ?_
  refine lv_iload_n hx hb dJx4a65c_grow_92f84_21 rfl (lv_at hl 2 rfl) ?_
  refine lv_iload_n hx hb dJx4a65c_grow_92f84_22 rfl (lv_at hl 0 rfl) ?_
  refine lv_isub hx hb dJx4a65c_grow_92f84_23 ?_
  refine top_i (show (nI (L.length + 1)) - (nI L.length) = nI 1 from (by rw [pk_sub (by omega)]; exact congrArg nI (by omega))) ?_
  refine lv_iload_n hx hb dJx4a65c_grow_92f84_24 rfl (lv_at hl 0 rfl) ?_
  refine lv_iconst (v := 1) hx hb dJx4a65c_grow_92f84_25 (by decide) ?_
  refine lv_ishr hx hb dJx4a65c_grow_92f84_26 ?_
  refine top_i (show (nI L.length) >>> (1 &&& 31) = nI (L.length / 2) from (by have k9 := pk_shrN (n := L.length) (by omega) ((1 : Int32) &&& 31) 1 (by decide); rw [Nat.pow_one] at k9; exact k9)) ?_
  refine k_callSi (As := [.int (nI L.length), .int (nI 1), .int (nI (L.length / 2))]) (rest := []) C hml (c_J8_newLength_cabcc h10 (by omega)) (va_cwS 3 hts gJx4a65c_grow_92f84_J8_newLength_cabcc rfl rfl rfl (by decide +kernel) ⟨by decide, by decide⟩) hW hS hB rfl hl.1 rfl (Nat.le_of_ble_eq_true rfl) dJx4a65c_grow_92f84_27 ⟨Nat.le_of_ble_eq_true rfl, Nat.le_of_ble_eq_true rfl⟩ (fun r9 S1 H locs hp9 hW hS => ?_)
  obtain ⟨e8, e9⟩ := hp9
  rw [e8] at hW
  subst e9
  refine lv_istore_n (lv' := [(3, .int (nI (L.length + L.length / 2))), (2, .int (nI L.length)), (0, .ref a), (1, .int (nI (L.length + 1)))]) hx hb dJx4a65c_grow_92f84_30 rfl hl (by decide) rfl (fun ls hl => ?_)
  refine lv_aload_n hx hb dJx4a65c_grow_92f84_31 rfl (lv_at hl 2 rfl) ?_
  refine lv_aload_n hx hb dJx4a65c_grow_92f84_32 rfl (lv_at hl 2 rfl) ?_
  refine g_1201 C hinJx4a65c hW h.1 h.2.1 l9 dJx4a65c_grow_92f84_33 ?_
  refine lv_iload_n hx hb dJx4a65c_grow_92f84_36 rfl (lv_at hl 0 rfl) ?_
  refine k_callSq (As := [.ref ea, .int (nI (L.length + L.length / 2))]) (rest := [.ref a]) C hml (c_J7_copyOf_1904c hA hf (Nat.le_add_right _ _) (by omega) hel hca hMi hDc hAO) (va_cwS 2 hts gJx4a65c_grow_92f84_J7_copyOf_1904c rfl rfl rfl (by decide +kernel) ⟨by decide, by decide⟩) hW hS hB rfl hl.1 rfl (Nat.le_of_ble_eq_true rfl) dJx4a65c_grow_92f84_37 ⟨Nat.le_of_ble_eq_true rfl, Nat.le_of_ble_eq_true rfl⟩ (fun r9 S2 H locs hp9 hW hS => ?_)
  obtain ⟨q, qn, e9, hq9⟩ := hp9
  subst e9
  subst hq9
  have hk9 : Ext S (cR (nA S q 21 (L.length + L.length / 2)) ea q 0 0 L.length) := fun k2 b2 g2 => nA_ext (k := 21) (n := L.length + L.length / 2) qn k2 b2 g2
  refine lv_dup_x1 hx hb dJx4a65c_grow_92f84_40 rfl rfl ?_
  refine p_1201 C hinJx4a65c hW hS (hk9 _ _ h.1) l9 dJx4a65c_grow_92f84_41 (fun S1 H locs e1 hW hS => ?_)
  subst e1
  exact k_aret C hr hlk hW hS hB ⟨q, qn, rfl, rfl⟩ (Or.inr ⟨_, rfl⟩) (Nat.le_refl _) (Nat.le_refl _) dJx4a65c_grow_92f84_44
set_option maxRecDepth 100000 in
set_option maxHeartbeats 1000000 in
theorem c_Jx4a65c_grow_92f84_0 {l : Launch} {D : va_G} {cy : Nat → ClassId} {B : Nat} {s0 : State} {S : PS} {dE a mi : Nat} (hd : Sd dE B s0) (h : IsAt S 12 a) (he : fR S 1201 a = some dE) (hMi : va_Mi "[Ljava/lang/Object;" mi s0) (hDc : va_Dc s0) (hAO : va_AO "java/lang/Object" s0) : KQ l yJx4a65c_grow_92f84 wsJx4a65c_grow_92f84 ({ frames := 1, cells := 1, slots := 1100, locals := 30 }) D cy B s0 [.ref a, .int (nI 1)] S (fun r S2 => ∃ q, q ∉ pL S ∧ r = some q ∧ S2 = sR (nA S q 21 10) 1201 a (some q)) 1 1100 := by
  refine k_body (own := RJx4a65c) (cc := cJx4a65c_grow_92f84) (maxL := 4) (ret := (some (.array (.object "java/lang/Object")))) rfl (by decide) rfl (Nat.le_of_ble_eq_true rfl) ?_
  intro p e s m below meth c C hml hr hlk hnm hB hW ls hl
  obtain ⟨hx, hb, hts, hown, hK, hEn⟩ := id C
  have hS : va_S (Aw B) s.heap s.heap [] := va_S.rf
  have hinJx4a65c : ∀ w ∈ wsJx4a65c0, w ∈ wsJx4a65c_grow_92f84 := by decide +kernel
  have l9 : Cond.fieldLink RJx4a65c 9 "java/util/ArrayList" "elementData" "[Ljava/lang/Object;" ∈ wsJx4a65c_grow_92f84 := by decide +kernel
  have hl : lv_has ls 4 [(0, .ref a), (1, .int (nI 1))] := hl
  refine lv_aload_n hx hb dJx4a65c_grow_92f84_0 rfl (lv_at hl 0 rfl) ?_
  refine g_1201 C hinJx4a65c hW h he l9 dJx4a65c_grow_92f84_1 ?_
  refine k_dElen C hS hd dJx4a65c_grow_92f84_4 ?_
  refine lv_istore_n (lv' := [(2, .int (nI 0)), (0, .ref a), (1, .int (nI 1))]) hx hb dJx4a65c_grow_92f84_5 rfl hl (by decide) rfl (fun ls hl => ?_)
  refine lv_iload_n hx hb dJx4a65c_grow_92f84_6 rfl (lv_at hl 0 rfl) ?_
  refine lv_if_gt (tgt := 20) hx hb dJx4a65c_grow_92f84_7 (by decide) (fun c_7 => absurd c_7 (by decide)) (fun c_7 => ?_)
  have q_7 : ¬ (0 < 0) := fun z => c_7 ((nI_ltI (a := 0) (b := 0) (by omega) (by omega)).mpr z)
  refine lv_aload_n hx hb dJx4a65c_grow_92f84_10 rfl (lv_at hl 1 rfl) ?_
  refine g_1201 C hinJx4a65c hW h he l9 dJx4a65c_grow_92f84_11 ?_
  refine k_dE C hS hd (show Cond.fieldLink RJx4a65c 39 "java/util/ArrayList" "DEFAULTCAPACITY_EMPTY_ELEMENTDATA" "[Ljava/lang/Object;" ∈ wsJx4a65c_grow_92f84 by decide +kernel) dJx4a65c_grow_92f84_14 ?_
  refine lv_acmp_eq (rx := some dE) (ry := some dE) (tgt := 45) hx hb dJx4a65c_grow_92f84_17 (by decide) (fun _ => ?_) (fun z9 => absurd rfl z9)
  refine lv_aload_n hx hb dJx4a65c_grow_92f84_45 rfl (lv_at hl 1 rfl) ?_
  refine lv_bipush (v := 10) hx hb dJx4a65c_grow_92f84_46 (by decide) ?_
  refine lv_iload_n hx hb dJx4a65c_grow_92f84_48 rfl (lv_at hl 2 rfl) ?_
  refine va_mmax hx hb (hml.trans hl.1.symm) hown (hts (.methodLink RJx4a65c 79 Lib.Math.max.name) (by decide +kernel)) (hts (.static Lib.Math.max.name) (by decide +kernel)) (hts (.initialized "java/lang/Math") (by decide +kernel)) (hts (.code Lib.Math.max.name Lib.Math.max.code 2 (some .int)) (by decide +kernel)) (by decide) (Nat.le_of_ble_eq_true rfl) (Nat.le_of_ble_eq_true rfl) (Nat.le_of_ble_eq_true rfl) dJx4a65c_grow_92f84_49 ?_
  refine n_21 C hW hS hB (N := 10) (show Cond.classLink RJx4a65c 7 "java/lang/Object" ∈ wsJx4a65c_grow_92f84 by decide +kernel) (hAO.moved hEn.1) (by decide) (by omega) (Nat.le_of_ble_eq_true rfl) (Nat.le_of_ble_eq_true rfl) dJx4a65c_grow_92f84_52 (fun q S1 H e1 qn hW hS => ?_)
  subst e1
  
  refine lv_dup_x1 hx hb dJx4a65c_grow_92f84_55 rfl rfl ?_
  refine p_1201 C hinJx4a65c hW hS (nA_ext qn _ _ h) l9 dJx4a65c_grow_92f84_56 (fun S1 H locs e1 hW hS => ?_)
  subst e1
  exact k_aret C hr hlk hW hS hB ⟨q, qn, rfl, rfl⟩ (Or.inr ⟨_, rfl⟩) (Nat.le_refl _) (by show _ ≤ 1100; omega) dJx4a65c_grow_92f84_59
set_option maxRecDepth 100000 in
set_option maxHeartbeats 1000000 in
theorem c_J7_copyOf_6403c_L {l : Launch} {D : va_G} {cy : Nat → ClassId} {B : Nat} {s0 : State} {S : PS} {ea n k mi : Nat} (h : IsAt S 21 ea) (hn : aN S ea = n) (hn1 : n ≤ k) (hk : k ≤ 1050) (hel : ∀ j, j < n → ∀ y, aQ S ea j = some y → IsAt S 5 y) (hca : va_Nw (.castable "LeaseGates$Loan" "java/lang/Object") s0) (hMi : va_Mi "[Ljava/lang/Object;" mi s0) (hDc : va_Dc s0) (hAO : va_AO "java/lang/Object" s0) : KQ l yJ7_copyOf_6403c wsJ7_copyOf_6403c ({ frames := 1, cells := 1, slots := 1100, locals := 60 }) D cy B s0 [.ref ea, .int (nI k), .ref mi] S (fun r S2 => ∃ q, q ∉ pL S ∧ r = some q ∧ S2 = cR (nA S q 21 k) ea q 0 0 n) 1 1100 := by
  refine k_body (own := RJ7) (cc := cJ7_copyOf_6403c) (maxL := 4) (ret := (some (.array (.object "java/lang/Object")))) rfl (by decide) rfl (Nat.le_of_ble_eq_true rfl) ?_
  intro p e s m below meth c C hml hr hlk hnm hB hW ls hl
  obtain ⟨hx, hb, hts, hown, hK, hEn⟩ := id C
  have hS : va_S (Aw B) s.heap s.heap [] := va_S.rf
  have hl : lv_has ls 4 [(0, .ref ea), (1, .int (nI k)), (2, .ref mi)] := hl
  refine lv_aload_n hx hb dJ7_copyOf_6403c_0 rfl (lv_at hl 2 rfl) ?_
  refine k_mirror C (show Cond.classLink RJ7 110 "[Ljava/lang/Object;" ∈ wsJ7_copyOf_6403c by decide +kernel) hMi dJ7_copyOf_6403c_1 ?_
  refine lv_acmp_ne (rx := some mi) (ry := some mi) (tgt := 13) hx hb dJ7_copyOf_6403c_3 (by decide) (fun z9 => absurd rfl z9) (fun _ => ?_)
  refine lv_iload_n hx hb dJ7_copyOf_6403c_6 rfl (lv_at hl 1 rfl) ?_
  refine n_21 C hW hS hB (N := k) (show Cond.classLink RJ7 2 "java/lang/Object" ∈ wsJ7_copyOf_6403c by decide +kernel) (hAO.moved hEn.1) rfl (by omega) (Nat.le_of_ble_eq_true rfl) (by show _ ≤ 1100; omega) dJ7_copyOf_6403c_7 (fun q S1 H e1 qn hW hS => ?_)
  subst e1
  refine lv_goto (tgt := 24) hx hb dJ7_copyOf_6403c_10 (by decide) ?_
  refine lv_astore_n (lv' := [(3, .ref q), (0, .ref ea), (1, .int (nI k)), (2, .ref mi)]) hx hb dJ7_copyOf_6403c_24 rfl hl (by decide) rfl (fun ls hl => ?_)
  refine lv_aload_n hx hb dJ7_copyOf_6403c_25 rfl (lv_at hl 1 rfl) ?_
  refine lv_iconst (v := 0) hx hb dJ7_copyOf_6403c_26 (by decide) ?_
  refine lv_aload_n hx hb dJ7_copyOf_6403c_27 rfl (lv_at hl 0 rfl) ?_
  refine lv_iconst (v := 0) hx hb dJ7_copyOf_6403c_28 (by decide) ?_
  refine lv_aload_n hx hb dJ7_copyOf_6403c_29 rfl (lv_at hl 1 rfl) ?_
  refine a_Objectlen (v := nI n) C hW (nA_ext qn _ _ h) (by rw [nA_aNa (fun z => qn (by rw [← z]; exact h.1)), hn]) dJ7_copyOf_6403c_30 ?_
  refine lv_iload_n hx hb dJ7_copyOf_6403c_31 rfl (lv_at hl 2 rfl) ?_
  refine va_mmin hx hb (hml.trans hl.1.symm) hown (hts (.methodLink RJ7 304 Lib.Math.min.name) (by decide +kernel)) (hts (.static Lib.Math.min.name) (by decide +kernel)) (hts (.initialized "java/lang/Math") (by decide +kernel)) (hts (.code Lib.Math.min.name Lib.Math.min.code 2 (some .int)) (by decide +kernel)) (by decide) (Nat.le_of_ble_eq_true rfl) (Nat.le_of_ble_eq_true rfl) (by show _ ≤ 1100; omega) dJ7_copyOf_6403c_32 ?_
  refine k_cpy5 (sp := 0) (dp := 0) (n := n) (N := n) (M := k) C (hml.trans hl.1.symm) (by decide +kernel) (by decide +kernel) (by decide +kernel) (by decide +kernel) hca hW hS (nA_ext qn _ _ h) (by rw [nA_aNa (fun z => qn (by rw [← z]; exact h.1)), hn]) (by omega) nA_is nA_aN (by omega) rfl rfl (if_pos_min n k hn1 hk) (by omega) (by omega) (fun j hj y hy => nA_ext qn _ _ (hel j hj y (by rw [nA_aQa (fun z => qn (by rw [← z]; exact h.1)), Nat.zero_add] at hy; exact hy))) (by decide) (by decide) dJ7_copyOf_6403c_35 (fun S1 H locs e1 hW hS => ?_)
  subst e1
  refine lv_aload_n hx hb dJ7_copyOf_6403c_38 rfl (lv_at hl 0 rfl) ?_
  exact k_aret C hr hlk hW hS hB ⟨q, qn, rfl, rfl⟩ (Or.inr ⟨_, rfl⟩) (Nat.le_refl _) (by show _ ≤ 1100; omega) dJ7_copyOf_6403c_39
set_option maxRecDepth 100000 in
set_option maxHeartbeats 1000000 in
theorem c_J7_copyOf_1904c_L {l : Launch} {D : va_G} {cy : Nat → ClassId} {B : Nat} {s0 : State} {S : PS} {ea n k mi : Nat} (h : IsAt S 21 ea) (hn : aN S ea = n) (hn1 : n ≤ k) (hk : k ≤ 1050) (hel : ∀ j, j < n → ∀ y, aQ S ea j = some y → IsAt S 5 y) (hca : va_Nw (.castable "LeaseGates$Loan" "java/lang/Object") s0) (hMi : va_Mi "[Ljava/lang/Object;" mi s0) (hDc : va_Dc s0) (hAO : va_AO "java/lang/Object" s0) : KQ l yJ7_copyOf_1904c wsJ7_copyOf_1904c ({ frames := 2, cells := 1, slots := 1100, locals := 83 }) D cy B s0 [.ref ea, .int (nI k)] S (fun r S2 => ∃ q, q ∉ pL S ∧ r = some q ∧ S2 = cR (nA S q 21 k) ea q 0 0 n) 1 1100 := by
  refine k_body (own := RJ7) (cc := cJ7_copyOf_1904c) (maxL := 2) (ret := (some (.array (.object "java/lang/Object")))) rfl (by decide) rfl (Nat.le_of_ble_eq_true rfl) ?_
  intro p e s m below meth c C hml hr hlk hnm hB hW ls hl
  obtain ⟨hx, hb, hts, hown, hK, hEn⟩ := id C
  have hS : va_S (Aw B) s.heap s.heap [] := va_S.rf
  have hl : lv_has ls 2 [(0, .ref ea), (1, .int (nI k))] := hl
  refine lv_aload_n hx hb dJ7_copyOf_1904c_0 rfl (lv_at hl 0 rfl) ?_
  refine lv_iload_n hx hb dJ7_copyOf_1904c_1 rfl (lv_at hl 1 rfl) ?_
  refine lv_aload_n hx hb dJ7_copyOf_1904c_2 rfl (lv_at hl 0 rfl) ?_
  refine k_getC C (hml.trans hl.1.symm) (show Cond.methodLink RJ7 86 ⟨"java/lang/Object", "getClass", "()Ljava/lang/Class;"⟩ ∈ wsJ7_copyOf_1904c by decide +kernel) hDc (by decide +kernel) (by decide +kernel) (by decide +kernel) hMi hW h (by decide) (Nat.le_of_ble_eq_true rfl) dJ7_copyOf_1904c_3 ?_
  refine k_callSq (As := [.ref ea, .int (nI k), .ref mi]) (rest := []) C hml (c_J7_copyOf_6403c_L h hn hn1 hk hel hca hMi hDc hAO) (va_cwS 3 hts gJ7_copyOf_1904c_J7_copyOf_6403c rfl rfl rfl (by decide +kernel) ⟨by decide, by decide⟩) hW hS hB rfl hl.1 rfl (Nat.le_of_ble_eq_true rfl) dJ7_copyOf_1904c_6 ⟨Nat.le_of_ble_eq_true rfl, Nat.le_of_ble_eq_true rfl⟩ (fun r9 S1 H locs hp9 hW hS => ?_)
  obtain ⟨q, qn, e9, hq9⟩ := hp9
  subst e9
  exact k_aret C hr hlk hW hS hB ⟨q, qn, rfl, hq9⟩ (Or.inr ⟨_, rfl⟩) (Nat.le_refl _) (Nat.le_refl _) dJ7_copyOf_1904c_9
set_option maxRecDepth 100000 in
set_option maxHeartbeats 1000000 in
theorem c_Jx4a65c_grow_92f84_L {l : Launch} {D : va_G} {cy : Nat → ClassId} {B : Nat} {s0 : State} {S : PS} {dE a ea mi : Nat} {L : List Nat} (h : AL S dE a ea L) (hf : aN S ea = L.length) (hA : IsAt S 21 ea) (h10 : 10 ≤ L.length) (hel : ∀ j, j < L.length → ∀ y, aQ S ea j = some y → IsAt S 5 y) (hca : va_Nw (.castable "LeaseGates$Loan" "java/lang/Object") s0) (hMi : va_Mi "[Ljava/lang/Object;" mi s0) (hDc : va_Dc s0) (hAO : va_AO "java/lang/Object" s0) : KQ l yJx4a65c_grow_92f84 wsJx4a65c_grow_92f84 ({ frames := 3, cells := 1, slots := 1100, locals := 104 }) D cy B s0 [.ref a, .int (nI (L.length + 1))] S (fun r S2 => ∃ q, q ∉ pL S ∧ r = some q ∧ S2 = sR (cR (nA S q 21 (L.length + L.length / 2)) ea q 0 0 L.length) 1201 a (some q)) 1 1100 := by
  refine k_body (own := RJx4a65c) (cc := cJx4a65c_grow_92f84) (maxL := 4) (ret := (some (.array (.object "java/lang/Object")))) rfl (by decide) rfl (Nat.le_of_ble_eq_true rfl) ?_
  intro p e s m below meth c C hml hr hlk hnm hB hW ls hl
  obtain ⟨hx, hb, hts, hown, hK, hEn⟩ := id C
  have hS : va_S (Aw B) s.heap s.heap [] := va_S.rf
  have hinJx4a65c : ∀ w ∈ wsJx4a65c0, w ∈ wsJx4a65c_grow_92f84 := by decide +kernel
  have l9 : Cond.fieldLink RJx4a65c 9 "java/util/ArrayList" "elementData" "[Ljava/lang/Object;" ∈ wsJx4a65c_grow_92f84 := by decide +kernel
  have hl : lv_has ls 4 [(0, .ref a), (1, .int (nI (L.length + 1)))] := hl
  have hl4 := h.2.2.2.1
  refine lv_aload_n hx hb dJx4a65c_grow_92f84_0 rfl (lv_at hl 0 rfl) ?_
  refine g_1201 C hinJx4a65c hW h.1 h.2.1 l9 dJx4a65c_grow_92f84_1 ?_
  refine a_Objectlen (v := nI L.length) C hW hA (by rw [hf]) dJx4a65c_grow_92f84_4 ?_
  refine lv_istore_n (lv' := [(2, .int (nI L.length)), (0, .ref a), (1, .int (nI (L.length + 1)))]) hx hb dJx4a65c_grow_92f84_5 rfl hl (by decide) rfl (fun ls hl => ?_)
  refine lv_iload_n hx hb dJx4a65c_grow_92f84_6 rfl (lv_at hl 0 rfl) ?_
  refine lv_if_gt (tgt := 20) hx hb dJx4a65c_grow_92f84_7 (by decide) (fun c_7 => ?_) (fun c_7 => absurd (nI_lt (a := 0) (by omega) (by omega)) c_7)
  have q_7 : 0 < L.length := (nI_ltI (a := 0) (b := L.length) (by omega) (by omega)).mp c_7
  refine lv_iload_n hx hb dJx4a65c_grow_92f84_20 rfl (lv_at hl 0 rfl) ?_
  refine lv_iload_n hx hb dJx4a65c_grow_92f84_21 rfl (lv_at hl 2 rfl) ?_
  refine lv_iload_n hx hb dJx4a65c_grow_92f84_22 rfl (lv_at hl 0 rfl) ?_
  refine lv_isub hx hb dJx4a65c_grow_92f84_23 ?_
  refine top_i (show (nI (L.length + 1)) - (nI L.length) = nI 1 from (by rw [pk_sub (by omega)]; exact congrArg nI (by omega))) ?_
  refine lv_iload_n hx hb dJx4a65c_grow_92f84_24 rfl (lv_at hl 0 rfl) ?_
  refine lv_iconst (v := 1) hx hb dJx4a65c_grow_92f84_25 (by decide) ?_
  refine lv_ishr hx hb dJx4a65c_grow_92f84_26 ?_
  refine top_i (show (nI L.length) >>> (1 &&& 31) = nI (L.length / 2) from (by have k9 := pk_shrN (n := L.length) (by omega) ((1 : Int32) &&& 31) 1 (by decide); rw [Nat.pow_one] at k9; exact k9)) ?_
  refine k_callSi (As := [.int (nI L.length), .int (nI 1), .int (nI (L.length / 2))]) (rest := []) C hml (c_J8_newLength_cabcc h10 (by omega)) (va_cwS 3 hts gJx4a65c_grow_92f84_J8_newLength_cabcc rfl rfl rfl (by decide +kernel) ⟨by decide, by decide⟩) hW hS hB rfl hl.1 rfl (Nat.le_of_ble_eq_true rfl) dJx4a65c_grow_92f84_27 ⟨Nat.le_of_ble_eq_true rfl, Nat.le_of_ble_eq_true rfl⟩ (fun r9 S1 H locs hp9 hW hS => ?_)
  obtain ⟨e8, e9⟩ := hp9
  rw [e8] at hW
  subst e9
  refine lv_istore_n (lv' := [(3, .int (nI (L.length + L.length / 2))), (2, .int (nI L.length)), (0, .ref a), (1, .int (nI (L.length + 1)))]) hx hb dJx4a65c_grow_92f84_30 rfl hl (by decide) rfl (fun ls hl => ?_)
  refine lv_aload_n hx hb dJx4a65c_grow_92f84_31 rfl (lv_at hl 2 rfl) ?_
  refine lv_aload_n hx hb dJx4a65c_grow_92f84_32 rfl (lv_at hl 2 rfl) ?_
  refine g_1201 C hinJx4a65c hW h.1 h.2.1 l9 dJx4a65c_grow_92f84_33 ?_
  refine lv_iload_n hx hb dJx4a65c_grow_92f84_36 rfl (lv_at hl 0 rfl) ?_
  refine k_callSq (As := [.ref ea, .int (nI (L.length + L.length / 2))]) (rest := [.ref a]) C hml (c_J7_copyOf_1904c_L hA hf (Nat.le_add_right _ _) (by omega) hel hca hMi hDc hAO) (va_cwS 2 hts gJx4a65c_grow_92f84_J7_copyOf_1904c rfl rfl rfl (by decide +kernel) ⟨by decide, by decide⟩) hW hS hB rfl hl.1 rfl (Nat.le_of_ble_eq_true rfl) dJx4a65c_grow_92f84_37 ⟨Nat.le_of_ble_eq_true rfl, Nat.le_of_ble_eq_true rfl⟩ (fun r9 S2 H locs hp9 hW hS => ?_)
  obtain ⟨q, qn, e9, hq9⟩ := hp9
  subst e9
  subst hq9
  have hk9 : Ext S (cR (nA S q 21 (L.length + L.length / 2)) ea q 0 0 L.length) := fun k2 b2 g2 => nA_ext (k := 21) (n := L.length + L.length / 2) qn k2 b2 g2
  refine lv_dup_x1 hx hb dJx4a65c_grow_92f84_40 rfl rfl ?_
  refine p_1201 C hinJx4a65c hW hS (hk9 _ _ h.1) l9 dJx4a65c_grow_92f84_41 (fun S1 H locs e1 hW hS => ?_)
  subst e1
  exact k_aret C hr hlk hW hS hB ⟨q, qn, rfl, rfl⟩ (Or.inr ⟨_, rfl⟩) (Nat.le_refl _) (Nat.le_refl _) dJx4a65c_grow_92f84_44
