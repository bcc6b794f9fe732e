set_option maxRecDepth 100000 in
set_option maxHeartbeats 1000000 in
theorem c_X1_init {l : Launch} {D : va_G} {cy : Nat → ClassId} {B : Nat} {s0 : State} {S : PS} {dE a : Nat} (hSd : Sd dE B s0) (h : IsAt S 1 a) : KV l yX1_init wsX1_init ({ frames := 4, cells := 1, slots := 3, locals := 72 }) D cy B s0 [.ref a] S (fun S2 => ∃ b, b ∉ pL S ∧ S2 = sR (fLs S b dE) 100 a (some b)) 1 3 := by
  refine k_body (own := RX1) (cc := cX1_init) (maxL := 1) (ret := none) rfl (by decide) rfl (Nat.le_of_ble_eq_true rfl) ?_
  intro p e s m below meth c C hml hr hlk hnm hB hW ls hl
  obtain ⟨hx, hb, hts, hown, hK, hEn⟩ := id C
  have hS : va_S (Aw B) s.heap s.heap [] := va_S.rf
  have hinJx4a65c : ∀ w ∈ wsJx4a65c0, w ∈ wsX1_init := by decide +kernel
  have hinX1 : ∀ w ∈ wsX10, w ∈ wsX1_init := by decide +kernel
  have l12 : Cond.fieldLink RX1 12 "LeaseGates$Bucket" "loans" "Ljava/util/ArrayList;" ∈ wsX1_init := by decide +kernel
  have hl : lv_has ls 1 [(0, .ref a)] := hl
  refine lv_aload_n hx hb dX1_init_0 rfl (lv_at hl 0 rfl) ?_
  refine W.objInit hx hb hown (hts (.methodLink RX1 3 objectInit) (by decide +kernel)) (hts (.instanceMethod objectInit) (by decide +kernel)) (hts _ (List.mem_of_getElem? (l := wsX1_init) (i := 3) rfl)) rfl (by rw [hml]; exact hl.1) rfl dX1_init_1 (Nat.le_of_ble_eq_true rfl) (Nat.le_of_ble_eq_true rfl) ?_
  refine W.eq (g2 := F0 m 4 ls []) rfl ?_
  
  refine lv_aload_n hx hb dX1_init_4 rfl (lv_at hl 0 rfl) ?_
  refine n_12 C hinJx4a65c hW hS hB (show Cond.classLink RX1 9 RJx4a65c ∈ wsX1_init by decide +kernel) (show Cond.instantiable RJx4a65c 3 ∈ wsX1_init by decide +kernel) (show Cond.initialized RJx4a65c ∈ wsX1_init by decide +kernel) (Nat.le_of_ble_eq_true rfl) (Nat.le_of_ble_eq_true rfl) dX1_init_5 (fun b S1 H e1 bn hW hS => ?_)
  subst e1
  replace h : IsAt (nO S b 12) 1 (a) := nO_ext bn _ _ h
  have h_b : IsAt (nO S b 12) 12 b := nO_is
  refine lv_dup hx hb dX1_init_8 rfl ?_
  refine k_callI (As := []) (rest := [.ref b, .ref a]) C hml (c_Jx4a65c_init_da8c8 hSd h_b) (cwI 0 hts ggX1_init_Jx4a65c_init_da8c8 rfl rfl rfl (hts (.initialized yJx4a65c_init_da8c8.cls) (by decide +kernel)) (hts (.methodLink RX1 11 yJx4a65c_init_da8c8) (by decide +kernel)) (hts (.instanceMethod yJx4a65c_init_da8c8) (by decide +kernel)) rfl (by decide +kernel) ⟨by decide, by decide⟩) hW hS hB rfl hl.1 rfl (Nat.le_of_ble_eq_true rfl) dX1_init_9 ⟨Nat.le_of_ble_eq_true rfl, Nat.le_of_ble_eq_true rfl⟩ (fun T1 H locs hp9 hW hS => ?_)
  subst hp9
  refine p_100 C hinX1 hW hS h l12 hnm rfl dX1_init_12 (fun S1 H locs e1 hW hS => ?_)
  subst e1
  exact k_vret C hr hlk hW hS hB ⟨b, bn, rfl⟩ (Nat.le_of_ble_eq_true rfl) (Nat.le_of_ble_eq_true rfl) dX1_init_15
set_option maxRecDepth 100000 in
set_option maxHeartbeats 1000000 in
theorem c_X2_init {l : Launch} {D : va_G} {cy : Nat → ClassId} {B : Nat} {s0 : State} {S : PS} {dE a : Nat} {x1 x2 : Int32} (hSd : Sd dE B s0) (h : IsAt S 2 a) : KV l yX2_init wsX2_init ({ frames := 4, cells := 1, slots := 3, locals := 72 }) D cy B s0 [.ref a, .int x1, .int x2] S (fun S2 => ∃ b, b ∉ pL S ∧ S2 = sI (sI (sR (fLs S b dE) 202 a (some b)) 200 a x1) 201 a x2) 1 3 := by
  refine k_body (own := RX2) (cc := cX2_init) (maxL := 3) (ret := none) rfl (by decide) rfl (Nat.le_of_ble_eq_true rfl) ?_
  intro p e s m below meth c C hml hr hlk hnm hB hW ls hl
  obtain ⟨hx, hb, hts, hown, hK, hEn⟩ := id C
  have hS : va_S (Aw B) s.heap s.heap [] := va_S.rf
  have hinJx4a65c : ∀ w ∈ wsJx4a65c0, w ∈ wsX2_init := by decide +kernel
  have hinX2 : ∀ w ∈ wsX20, w ∈ wsX2_init := by decide +kernel
  have l12 : Cond.fieldLink RX2 12 "LeaseGates$Desk" "holds" "Ljava/util/ArrayList;" ∈ wsX2_init := by decide +kernel
  have l18 : Cond.fieldLink RX2 18 "LeaseGates$Desk" "gate" "I" ∈ wsX2_init := by decide +kernel
  have l22 : Cond.fieldLink RX2 22 "LeaseGates$Desk" "key" "I" ∈ wsX2_init := by decide +kernel
  have hl : lv_has ls 3 [(0, .ref a), (1, .int x1), (2, .int x2)] := hl
  refine lv_aload_n hx hb dX2_init_0 rfl (lv_at hl 0 rfl) ?_
  refine W.objInit hx hb hown (hts (.methodLink RX2 3 objectInit) (by decide +kernel)) (hts (.instanceMethod objectInit) (by decide +kernel)) (hts _ (List.mem_of_getElem? (l := wsX2_init) (i := 3) rfl)) rfl (by rw [hml]; exact hl.1) rfl dX2_init_1 (Nat.le_of_ble_eq_true rfl) (Nat.le_of_ble_eq_true rfl) ?_
  refine W.eq (g2 := F0 m 4 ls []) rfl ?_
  
  refine lv_aload_n hx hb dX2_init_4 rfl (lv_at hl 0 rfl) ?_
  refine n_12 C hinJx4a65c hW hS hB (show Cond.classLink RX2 9 RJx4a65c ∈ wsX2_init by decide +kernel) (show Cond.instantiable RJx4a65c 3 ∈ wsX2_init by decide +kernel) (show Cond.initialized RJx4a65c ∈ wsX2_init by decide +kernel) (Nat.le_of_ble_eq_true rfl) (Nat.le_of_ble_eq_true rfl) dX2_init_5 (fun b S1 H e1 bn hW hS => ?_)
  subst e1
  replace h : IsAt (nO S b 12) 2 (a) := nO_ext bn _ _ h
  have h_b : IsAt (nO S b 12) 12 b := nO_is
  refine lv_dup hx hb dX2_init_8 rfl ?_
  refine k_callI (As := []) (rest := [.ref b, .ref a]) C hml (c_Jx4a65c_init_da8c8 hSd h_b) (cwI 0 hts ggX2_init_Jx4a65c_init_da8c8 rfl rfl rfl (hts (.initialized yJx4a65c_init_da8c8.cls) (by decide +kernel)) (hts (.methodLink RX2 11 yJx4a65c_init_da8c8) (by decide +kernel)) (hts (.instanceMethod yJx4a65c_init_da8c8) (by decide +kernel)) rfl (by decide +kernel) ⟨by decide, by decide⟩) hW hS hB rfl hl.1 rfl (Nat.le_of_ble_eq_true rfl) dX2_init_9 ⟨Nat.le_of_ble_eq_true rfl, Nat.le_of_ble_eq_true rfl⟩ (fun T1 H locs hp9 hW hS => ?_)
  subst hp9
  refine p_202 C hinX2 hW hS h l12 hnm rfl dX2_init_12 (fun S1 H locs e1 hW hS => ?_)
  subst e1
  refine lv_aload_n hx hb dX2_init_15 rfl (lv_at hl 0 rfl) ?_
  refine lv_iload_n hx hb dX2_init_16 rfl (lv_at hl 1 rfl) ?_
  refine p_200 C hinX2 hW hS h l18 hnm rfl dX2_init_17 (fun S1 H locs e1 hW hS => ?_)
  subst e1
  refine lv_aload_n hx hb dX2_init_20 rfl (lv_at hl 0 rfl) ?_
  refine lv_iload_n hx hb dX2_init_21 rfl (lv_at hl 2 rfl) ?_
  refine p_201 C hinX2 hW hS h l22 hnm rfl dX2_init_22 (fun S1 H locs e1 hW hS => ?_)
  subst e1
  exact k_vret C hr hlk hW hS hB ⟨b, bn, rfl⟩ (Nat.le_of_ble_eq_true rfl) (Nat.le_of_ble_eq_true rfl) dX2_init_25
set_option maxRecDepth 100000 in
set_option maxHeartbeats 1000000 in
theorem c_X7_init {l : Launch} {D : va_G} {cy : Nat → ClassId} {B : Nat} {s0 : State} {S : PS} {a : Nat} (hA : EnvA s0) (h : IsAt S 7 a) : KV l yX7_init wsX7_init ({ frames := 1, cells := 1, slots := 300, locals := 12 }) D cy B s0 [.ref a] S (fun S2 => ∃ b, b ∉ pL S ∧ S2 = sR (nA S b 20 300) 700 a (some b)) 1 300 := by
  refine k_body (own := RX7) (cc := cX7_init) (maxL := 1) (ret := none) rfl (by decide) rfl (Nat.le_of_ble_eq_true rfl) ?_
  intro p e s m below meth c C hml hr hlk hnm hB hW ls hl
  obtain ⟨hx, hb, hts, hown, hK, hEn⟩ := id C
  have hS : va_S (Aw B) s.heap s.heap [] := va_S.rf
  have hinX7 : ∀ w ∈ wsX70, w ∈ wsX7_init := by decide +kernel
  have l11 : Cond.fieldLink RX7 11 "LeaseGates$Post" "slots" "[LLeaseGates$Message;" ∈ wsX7_init := by decide +kernel
  have hl : lv_has ls 1 [(0, .ref a)] := hl
  refine lv_aload_n hx hb dX7_init_0 rfl (lv_at hl 0 rfl) ?_
  refine W.objInit hx hb hown (hts (.methodLink RX7 3 objectInit) (by decide +kernel)) (hts (.instanceMethod objectInit) (by decide +kernel)) (hts _ (List.mem_of_getElem? (l := wsX7_init) (i := 3) rfl)) rfl (by rw [hml]; exact hl.1) rfl dX7_init_1 (Nat.le_of_ble_eq_true rfl) (Nat.le_of_ble_eq_true rfl) ?_
  refine W.eq (g2 := F0 m 4 ls []) rfl ?_
  
  refine lv_aload_n hx hb dX7_init_4 rfl (lv_at hl 0 rfl) ?_
  refine lv_sipush (v := 300) hx hb dX7_init_5 (by decide) ?_
  refine n_20 C hW hS hB (N := 300) (show Cond.classLink RX7 9 "LeaseGates$Message" ∈ wsX7_init by decide +kernel) (hA.2.2.2.2.1.moved hEn.1) rfl (by omega) (Nat.le_of_ble_eq_true rfl) (Nat.le_of_ble_eq_true rfl) dX7_init_8 (fun b S1 H e1 bn hW hS => ?_)
  subst e1
  replace h : IsAt (nA S b 20 300) 7 (a) := nA_ext bn _ _ h
  have h_b : IsAt (nA S b 20 300) 20 b := nA_is
  refine p_700 C hinX7 hW hS h l11 hnm rfl dX7_init_11 (fun S1 H locs e1 hW hS => ?_)
  subst e1
  exact k_vret C hr hlk hW hS hB ⟨b, bn, rfl⟩ (Nat.le_of_ble_eq_true rfl) (Nat.le_of_ble_eq_true rfl) dX7_init_14
set_option maxRecDepth 100000 in
set_option maxHeartbeats 1000000 in
theorem c_X3_init {l : Launch} {D : va_G} {cy : Nat → ClassId} {B : Nat} {s0 : State} {S : PS} {dE a gt : Nat} (hSd : Sd dE B s0) (hA : EnvA s0) (h : IsAt S 3 a) (hz : Zr S a) : KV l yX3_init wsX3_init ({ frames := 5, cells := 18, slots := 106, locals := 94 }) D cy B s0 [.ref a, .int (nI gt)] S (fun S2 => ∃ u, GaK S2 dE a gt u 8 ∧ NewW S S2 u 18 ∧ Fr S S2 (fun x => x = a)) 18 106 := by
  refine k_body (own := RX3) (cc := cX3_init) (maxL := 3) (ret := none) rfl (by decide) rfl (Nat.le_of_ble_eq_true rfl) ?_
  intro p e s m below meth c C hml hr hlk hnm hB hW ls hl
  obtain ⟨hx, hb, hts, hown, hK, hEn⟩ := id C
  have hS : va_S (Aw B) s.heap s.heap [] := va_S.rf
  have hinX2 : ∀ w ∈ wsX20, w ∈ wsX3_init := by decide +kernel
  have hinX3 : ∀ w ∈ wsX30, w ∈ wsX3_init := by decide +kernel
  have hinX9 : ∀ w ∈ wsX90, w ∈ wsX3_init := by decide +kernel
  have l12 : Cond.fieldLink RX3 12 "LeaseGates$Gate" "ticker" "LLeaseGates$Ticker;" ∈ wsX3_init := by decide +kernel
  have l20 : Cond.fieldLink RX3 20 "LeaseGates$Gate" "desks" "[LLeaseGates$Desk;" ∈ wsX3_init := by decide +kernel
  have hl : lv_has ls 3 [(0, .ref a), (1, .int (nI gt))] := hl
  have h0 := h
  refine lv_aload_n hx hb dX3_init_0 rfl (lv_at hl 0 rfl) ?_
  refine W.objInit hx hb hown (hts (.methodLink RX3 3 objectInit) (by decide +kernel)) (hts (.instanceMethod objectInit) (by decide +kernel)) (hts _ (List.mem_of_getElem? (l := wsX3_init) (i := 3) rfl)) rfl (by rw [hml]; exact hl.1) rfl dX3_init_1 (Nat.le_of_ble_eq_true rfl) (Nat.le_of_ble_eq_true rfl) ?_
  refine W.eq (g2 := F0 m 4 ls []) rfl ?_
  
  refine lv_aload_n hx hb dX3_init_4 rfl (lv_at hl 0 rfl) ?_
  refine n_9 C hinX9 hW hS hB (show Cond.classLink RX3 9 RX9 ∈ wsX3_init by decide +kernel) (show Cond.instantiable RX9 2 ∈ wsX3_init by decide +kernel) (show Cond.initialized RX9 ∈ wsX3_init by decide +kernel) (Nat.le_of_ble_eq_true rfl) (Nat.le_of_ble_eq_true rfl) dX3_init_5 (fun q S1 H e1 qn hW hS => ?_)
  subst e1
  replace h : IsAt (nO S q 9) 3 (a) := nO_ext qn _ _ h
  have h_q : IsAt (nO S q 9) 9 q := nO_is
  refine lv_dup hx hb dX3_init_8 rfl ?_
  refine k_callIN (As := []) (rest := [.ref q, .ref a]) C hml (c_X9_init h_q) ⟨va_cnB 0 hts ggX3_init_X9_init rfl rfl rfl (va_Nw.warmM hEn.2.2 hA.2.2.2.2.2.2.1) (hts (.initialized yX9_init.cls) (by decide +kernel)) (by decide +kernel) ⟨by decide, by decide⟩, rfl, hts (.instanceMethod yX9_init) (by decide +kernel)⟩ hW hS hB rfl hl.1 rfl (Nat.le_of_ble_eq_true rfl) dX3_init_9 ⟨Nat.le_of_ble_eq_true rfl, Nat.le_of_ble_eq_true rfl⟩ (fun T1 H locs hp9 hW hS => ?_)
  subst hp9
  refine p_300 C hinX3 hW hS h l12 hnm rfl dX3_init_12 (fun S1 H locs e1 hW hS => ?_)
  subst e1
  refine lv_aload_n hx hb dX3_init_15 rfl (lv_at hl 0 rfl) ?_
  refine lv_bipush (v := 8) hx hb dX3_init_16 (by decide) ?_
  refine n_18 C hW hS hB (N := 8) (show Cond.classLink RX3 18 "LeaseGates$Desk" ∈ wsX3_init by decide +kernel) (hA.2.2.1.moved hEn.1) rfl (by omega) (Nat.le_of_ble_eq_true rfl) (Nat.le_of_ble_eq_true rfl) dX3_init_18 (fun r S1 H e1 rn hW hS => ?_)
  subst e1
  replace h : IsAt (nA (sR (sI (nO S q 9) 901 q 1000) 300 a (some q)) r 18 8) 3 (a) := nA_ext rn _ _ h
  replace h_q : IsAt (nA (sR (sI (nO S q 9) 901 q 1000) 300 a (some q)) r 18 8) 9 (q) := nA_ext rn _ _ h_q
  have h_r : IsAt (nA (sR (sI (nO S q 9) 901 q 1000) 300 a (some q)) r 18 8) 18 r := nA_is
  refine p_301 C hinX3 hW hS h l20 hnm rfl dX3_init_21 (fun S1 H locs e1 hW hS => ?_)
  subst e1
  refine lv_iconst (v := 0) hx hb dX3_init_24 (by decide) ?_
  refine lv_istore_n (lv' := [(2, .int 0), (0, .ref a), (1, .int (nI gt))]) hx hb dX3_init_25 rfl hl (by decide) rfl (fun ls hl => ?_)
  have lp : ∀ (d i : Nat) (u : Nat → Nat) (Sk : PS) (H : Heap) (locs : List Loc) (ls : Array Slot), i ≤ 8 → 8 - i < d → GaK Sk dE a gt u i → NewW S Sk u (2 + 2 * i) → Fr S Sk (fun x => x = a) → PW D cy B Sk H → va_S (Aw B) s.heap H locs → lv_has ls 3 [(0, .ref a), (1, .int (nI gt)), (2, .int (nI i))] → W p l e ({ frames := 5, cells := 18, slots := 106, locals := 94 }) s m [.ref a, .int (nI gt)].toArray below meth c H locs (2 + 2 * i) (10 + 12 * i) (MQ below (va_Qv (fun S2 => ∃ u, GaK S2 dE a gt u 8 ∧ NewW S S2 u 18 ∧ Fr S S2 (fun x => x = a)) (PreW D cy B s0) (Aw B)) [.ref a, .int (nI gt)].toArray s 18 106 (Aw B)) (F0 m 26 ls []) := by
    intro d
    induction d with
    | zero => intro i u Sk H locs ls _ hd; exact absurd hd (Nat.not_lt_zero _)
    | succ d ih =>
      intro i u Sk H locs ls hk hd hG hN hF hW hS hl
      refine lv_iload_n hx hb dX3_init_26 rfl (lv_at hl 2 rfl) ?_
      refine lv_bipush (v := 8) hx hb dX3_init_27 (by decide) ?_
      refine lv_icmp_ge (tgt := 53) hx hb dX3_init_29 (by decide) (fun c_29 => ?_) (fun c_29 => ?_)
      · have q_29 : 8 ≤ i := (nI_leI (a := 8) (b := i) (by omega) (by omega)).mp c_29
        exact k_vret C hr hlk hW hS hB ⟨u, by rw [show i = 8 by omega] at hG; exact hG, by rw [show i = 8 by omega] at hN; exact hN, hF⟩ (by show _ ≤ 18; omega) (by show _ ≤ 106; omega) dX3_init_53
      · have q_29 : ¬ (8 ≤ i) := fun z => c_29 ((nI_leI (a := 8) (b := i) (by omega) (by omega)).mpr z)
        have hu1 := hG.2.2.2.2.2.1
        refine lv_aload_n hx hb dX3_init_32 rfl (lv_at hl 0 rfl) ?_
        refine g_301 C hinX3 hW hG.1 hG.2.2.2.2.1 l20 dX3_init_33 ?_
        refine lv_iload_n hx hb dX3_init_36 rfl (lv_at hl 2 rfl) ?_
        refine n_2 C hinX2 hW hS hB (show Cond.classLink RX3 18 RX2 ∈ wsX3_init by decide +kernel) (show Cond.instantiable RX2 9 ∈ wsX3_init by decide +kernel) (show Cond.initialized RX2 ∈ wsX3_init by decide +kernel) (by show _ ≤ 18; omega) (by show _ ≤ 106; omega) dX3_init_37 (fun c9 S1 H e1 cn hW hS => ?_)
        subst e1
        replace hu1 : IsAt (nO Sk c9 2) 18 (u 1) := nO_ext cn _ _ hu1
        have h_c9 : IsAt (nO Sk c9 2) 2 c9 := nO_is
        refine lv_dup hx hb dX3_init_40 rfl ?_
        refine lv_iload_n hx hb dX3_init_41 rfl (lv_at hl 1 rfl) ?_
        refine lv_iload_n hx hb dX3_init_42 rfl (lv_at hl 2 rfl) ?_
        refine k_callI (As := [.int (nI gt), .int (nI i)]) (rest := [.ref c9, .int (nI i), .ref (u 1)]) C hml (c_X2_init hSd h_c9) (cwI 2 hts ggX3_init_X2_init rfl rfl rfl (hts (.initialized yX2_init.cls) (by decide +kernel)) (hts (.methodLink RX3 24 yX2_init) (by decide +kernel)) (hts (.instanceMethod yX2_init) (by decide +kernel)) rfl (by decide +kernel) ⟨by decide, by decide⟩) hW hS hB rfl hl.1 rfl (Nat.le_of_ble_eq_true rfl) dX3_init_43 ⟨by show _ ≤ 18; omega, by show _ ≤ 106; omega⟩ (fun T2 H locs hp9 hW hS => ?_)
        obtain ⟨b, bn, e9⟩ := hp9
        subst e9
        replace hu1 := (ls_new (dE := dE) bn).2.1.1 _ _ hu1
        replace h_c9 := (ls_new (dE := dE) bn).2.1.1 _ _ h_c9
        refine a_Deskstore C hW hS (j := i) hu1 hG.2.2.2.2.2.2.1 rfl (by omega) (by omega) h_c9 dX3_init_46 (fun S1 H locs e1 hW hS => ?_)
        subst e1
        refine lv_iinc (v := nI (i + 1)) (lv' := [(2, .int (nI (i + 1))), (0, .ref a), (1, .int (nI gt))]) hx hb dX3_init_47 hl (k := 2) rfl (nI_add i 1) (by decide) rfl (fun ls hl => ?_)
        refine lv_goto (tgt := 26) hx hb dX3_init_50 (by decide) ?_
        exact W.widen (by omega) (by omega) (ih (i + 1) _ _ _ _ ls (by omega) (by omega) (ga_step hG hN hF (by omega) cn bn).1 (ga_step hG hN hF (by omega) cn bn).2.1 (ga_step hG hN hF (by omega) cn bn).2.2 hW hS (lv_sub hl [1, 2, 0] rfl))
  exact W.widen (by omega) (by omega) (lp (8 - 0 + 1) 0 _ _ _ _ ls (by omega) (by omega) (ga_start (dE := dE) (gt := gt) h0 hz qn rn).1 (ga_start (dE := dE) (gt := gt) h0 hz qn rn).2.1 (ga_start (dE := dE) (gt := gt) h0 hz qn rn).2.2 hW hS (lv_sub hl [1, 2, 0] rfl))
set_option maxRecDepth 100000 in
set_option maxHeartbeats 1000000 in
theorem c_X8_init {l : Launch} {D : va_G} {cy : Nat → ClassId} {B : Nat} {s0 : State} {S : PS} {dE a : Nat} (hSd : Sd dE B s0) (hA : EnvA s0) (h : IsAt S 8 a) (hz : Zr S a) : KV l yX8_init wsX8_init ({ frames := 5, cells := 68, slots := 328, locals := 92 }) D cy B s0 [.ref a] S (fun S2 => ∃ u, RoB S2 dE a u 8 48 ∧ NewW S S2 u 68 ∧ Fr S S2 (fun x => x = a)) 68 328 := by
  refine k_body (own := RX8) (cc := cX8_init) (maxL := 2) (ret := none) rfl (by decide) rfl (Nat.le_of_ble_eq_true rfl) ?_
  intro p e s m below meth c C hml hr hlk hnm hB hW ls hl
  obtain ⟨hx, hb, hts, hown, hK, hEn⟩ := id C
  have hS : va_S (Aw B) s.heap s.heap [] := va_S.rf
  have hinX0 : ∀ w ∈ wsX00, w ∈ wsX8_init := by decide +kernel
  have hinX1 : ∀ w ∈ wsX10, w ∈ wsX8_init := by decide +kernel
  have hinX8 : ∀ w ∈ wsX80, w ∈ wsX8_init := by decide +kernel
  have hinX9 : ∀ w ∈ wsX90, w ∈ wsX8_init := by decide +kernel
  have l12 : Cond.fieldLink RX8 12 "LeaseGates$Root" "ticker" "LLeaseGates$Ticker;" ∈ wsX8_init := by decide +kernel
  have l20 : Cond.fieldLink RX8 20 "LeaseGates$Root" "buckets" "[LLeaseGates$Bucket;" ∈ wsX8_init := by decide +kernel
  have l26 : Cond.fieldLink RX8 26 "LeaseGates$Root" "accounts" "[LLeaseGates$Account;" ∈ wsX8_init := by decide +kernel
  have l30 : Cond.fieldLink RX8 30 "LeaseGates$Root" "births" "[I" ∈ wsX8_init := by decide +kernel
  have l34 : Cond.fieldLink RX8 34 "LeaseGates$Root" "loanLength" "I" ∈ wsX8_init := by decide +kernel
  have hl : lv_has ls 2 [(0, .ref a)] := hl
  have h0 := h
  refine lv_aload_n hx hb dX8_init_0 rfl (lv_at hl 0 rfl) ?_
  refine W.objInit hx hb hown (hts (.methodLink RX8 3 objectInit) (by decide +kernel)) (hts (.instanceMethod objectInit) (by decide +kernel)) (hts _ (List.mem_of_getElem? (l := wsX8_init) (i := 3) rfl)) rfl (by rw [hml]; exact hl.1) rfl dX8_init_1 (Nat.le_of_ble_eq_true rfl) (Nat.le_of_ble_eq_true rfl) ?_
  refine W.eq (g2 := F0 m 4 ls []) rfl ?_
  
  refine lv_aload_n hx hb dX8_init_4 rfl (lv_at hl 0 rfl) ?_
  refine n_9 C hinX9 hW hS hB (show Cond.classLink RX8 9 RX9 ∈ wsX8_init by decide +kernel) (show Cond.instantiable RX9 2 ∈ wsX8_init by decide +kernel) (show Cond.initialized RX9 ∈ wsX8_init by decide +kernel) (Nat.le_of_ble_eq_true rfl) (Nat.le_of_ble_eq_true rfl) dX8_init_5 (fun q S1 H e1 qn hW hS => ?_)
  subst e1
  replace h : IsAt (nO S q 9) 8 (a) := nO_ext qn _ _ h
  have h_q : IsAt (nO S q 9) 9 q := nO_is
  refine lv_dup hx hb dX8_init_8 rfl ?_
  refine k_callIN (As := []) (rest := [.ref q, .ref a]) C hml (c_X9_init h_q) ⟨va_cnB 0 hts ggX8_init_X9_init rfl rfl rfl (va_Nw.warmM hEn.2.2 hA.2.2.2.2.2.2.2.1) (hts (.initialized yX9_init.cls) (by decide +kernel)) (by decide +kernel) ⟨by decide, by decide⟩, rfl, hts (.instanceMethod yX9_init) (by decide +kernel)⟩ hW hS hB rfl hl.1 rfl (Nat.le_of_ble_eq_true rfl) dX8_init_9 ⟨Nat.le_of_ble_eq_true rfl, Nat.le_of_ble_eq_true rfl⟩ (fun T1 H locs hp9 hW hS => ?_)
  subst hp9
  refine p_800 C hinX8 hW hS h l12 hnm rfl dX8_init_12 (fun S1 H locs e1 hW hS => ?_)
  subst e1
  refine lv_aload_n hx hb dX8_init_15 rfl (lv_at hl 0 rfl) ?_
  refine lv_bipush (v := 8) hx hb dX8_init_16 (by decide) ?_
  refine n_17 C hW hS hB (N := 8) (show Cond.classLink RX8 18 "LeaseGates$Bucket" ∈ wsX8_init by decide +kernel) (hA.2.1.moved hEn.1) rfl (by omega) (Nat.le_of_ble_eq_true rfl) (Nat.le_of_ble_eq_true rfl) dX8_init_18 (fun r1 S1 H e1 r1n hW hS => ?_)
  subst e1
  replace h : IsAt (nA (sR (sI (nO S q 9) 901 q 1000) 800 a (some q)) r1 17 8) 8 (a) := nA_ext r1n _ _ h
  replace h_q : IsAt (nA (sR (sI (nO S q 9) 901 q 1000) 800 a (some q)) r1 17 8) 9 (q) := nA_ext r1n _ _ h_q
  have h_r1 : IsAt (nA (sR (sI (nO S q 9) 901 q 1000) 800 a (some q)) r1 17 8) 17 r1 := nA_is
  refine p_801 C hinX8 hW hS h l20 hnm rfl dX8_init_21 (fun S1 H locs e1 hW hS => ?_)
  subst e1
  refine lv_aload_n hx hb dX8_init_24 rfl (lv_at hl 0 rfl) ?_
  refine lv_bipush (v := 48) hx hb dX8_init_25 (by decide) ?_
  refine n_16 C hW hS hB (N := 48) (show Cond.classLink RX8 24 "LeaseGates$Account" ∈ wsX8_init by decide +kernel) (hA.1.moved hEn.1) rfl (by omega) (Nat.le_of_ble_eq_true rfl) (Nat.le_of_ble_eq_true rfl) dX8_init_27 (fun r2 S1 H e1 r2n hW hS => ?_)
  subst e1
  replace h : IsAt (nA (sR (nA (sR (sI (nO S q 9) 901 q 1000) 800 a (some q)) r1 17 8) 801 a (some r1)) r2 16 48) 8 (a) := nA_ext r2n _ _ h
  replace h_q : IsAt (nA (sR (nA (sR (sI (nO S q 9) 901 q 1000) 800 a (some q)) r1 17 8) 801 a (some r1)) r2 16 48) 9 (q) := nA_ext r2n _ _ h_q
  replace h_r1 : IsAt (nA (sR (nA (sR (sI (nO S q 9) 901 q 1000) 800 a (some q)) r1 17 8) 801 a (some r1)) r2 16 48) 17 (r1) := nA_ext r2n _ _ h_r1
  have h_r2 : IsAt (nA (sR (nA (sR (sI (nO S q 9) 901 q 1000) 800 a (some q)) r1 17 8) 801 a (some r1)) r2 16 48) 16 r2 := nA_is
  refine p_802 C hinX8 hW hS h l26 hnm rfl dX8_init_30 (fun S1 H locs e1 hW hS => ?_)
  subst e1
  refine lv_aload_n hx hb dX8_init_33 rfl (lv_at hl 0 rfl) ?_
  refine lv_bipush (v := 6) hx hb dX8_init_34 (by decide) ?_
  refine n_13 C hW hS hB (N := 6) (show Cond.arrayClass .int ∈ wsX8_init by decide +kernel) rfl (by omega) (Nat.le_of_ble_eq_true rfl) (Nat.le_of_ble_eq_true rfl) dX8_init_36 (fun r3 S1 H e1 r3n hW hS => ?_)
  subst e1
  replace h : IsAt (nA (sR (nA (sR (nA (sR (sI (nO S q 9) 901 q 1000) 800 a (some q)) r1 17 8) 801 a (some r1)) r2 16 48) 802 a (some r2)) r3 13 6) 8 (a) := nA_ext r3n _ _ h
  replace h_q : IsAt (nA (sR (nA (sR (nA (sR (sI (nO S q 9) 901 q 1000) 800 a (some q)) r1 17 8) 801 a (some r1)) r2 16 48) 802 a (some r2)) r3 13 6) 9 (q) := nA_ext r3n _ _ h_q
  replace h_r1 : IsAt (nA (sR (nA (sR (nA (sR (sI (nO S q 9) 901 q 1000) 800 a (some q)) r1 17 8) 801 a (some r1)) r2 16 48) 802 a (some r2)) r3 13 6) 17 (r1) := nA_ext r3n _ _ h_r1
  replace h_r2 : IsAt (nA (sR (nA (sR (nA (sR (sI (nO S q 9) 901 q 1000) 800 a (some q)) r1 17 8) 801 a (some r1)) r2 16 48) 802 a (some r2)) r3 13 6) 16 (r2) := nA_ext r3n _ _ h_r2
  have h_r3 : IsAt (nA (sR (nA (sR (nA (sR (sI (nO S q 9) 901 q 1000) 800 a (some q)) r1 17 8) 801 a (some r1)) r2 16 48) 802 a (some r2)) r3 13 6) 13 r3 := nA_is
  refine p_803 C hinX8 hW hS h l30 hnm rfl dX8_init_38 (fun S1 H locs e1 hW hS => ?_)
  subst e1
  refine lv_aload_n hx hb dX8_init_41 rfl (lv_at hl 0 rfl) ?_
  refine lv_sipush (v := 2000) hx hb dX8_init_42 (by decide) ?_
  refine p_804 C hinX8 hW hS h l34 dX8_init_45 (fun S1 H locs e1 hW hS => ?_)
  subst e1
  refine lv_iconst (v := 0) hx hb dX8_init_48 (by decide) ?_
  refine lv_istore_n (lv' := [(1, .int 0), (0, .ref a)]) hx hb dX8_init_49 rfl hl (by decide) rfl (fun ls hl => ?_)
  have lp : ∀ (d i : Nat) (u : Nat → Nat) (Sk : PS) (H : Heap) (locs : List Loc) (ls : Array Slot), i ≤ 8 → 8 - i < d → RoB Sk dE a u i 0 → NewW S Sk u (4 + 2 * i) → Fr S Sk (fun x => x = a) → PW D cy B Sk H → va_S (Aw B) s.heap H locs → lv_has ls 2 [(0, .ref a), (1, .int (nI i))] → W p l e ({ frames := 5, cells := 68, slots := 328, locals := 92 }) s m [.ref a].toArray below meth c H locs (4 + 2 * i) (64 + 9 * i) (MQ below (va_Qv (fun S2 => ∃ u, RoB S2 dE a u 8 48 ∧ NewW S S2 u 68 ∧ Fr S S2 (fun x => x = a)) (PreW D cy B s0) (Aw B)) [.ref a].toArray s 68 328 (Aw B)) (F0 m 50 ls []) := by
    intro d
    induction d with
    | zero => intro i u Sk H locs ls _ hd; exact absurd hd (Nat.not_lt_zero _)
    | succ d ih =>
      intro i u Sk H locs ls hk hd hG hN hF hW hS hl
      refine lv_iload_n hx hb dX8_init_50 rfl (lv_at hl 1 rfl) ?_
      refine lv_bipush (v := 8) hx hb dX8_init_51 (by decide) ?_
      refine lv_icmp_ge (tgt := 75) hx hb dX8_init_53 (by decide) (fun c_53 => ?_) (fun c_53 => ?_)
      · have q_53 : 8 ≤ i := (nI_leI (a := 8) (b := i) (by omega) (by omega)).mp c_53
        refine lv_iconst (v := 0) hx hb dX8_init_75 (by decide) ?_
        refine lv_istore_n (lv' := [(1, .int 0), (0, .ref a)]) hx hb dX8_init_76 rfl hl (by decide) rfl (fun ls hl => ?_)
        have lp2 : ∀ (d_lp2 j : Nat) (u : Nat → Nat) (Sk : PS) (H : Heap) (locs : List Loc) (ls : Array Slot), j ≤ 48 → 48 - j < d_lp2 → RoB Sk dE a u 8 j → NewW S Sk u (20 + j) → Fr S Sk (fun x => x = a) → PW D cy B Sk H → va_S (Aw B) s.heap H locs → lv_has ls 2 [(0, .ref a), (1, .int (nI j))] → W p l e ({ frames := 5, cells := 68, slots := 328, locals := 92 }) s m [.ref a].toArray below meth c H locs (20 + j) (136 + 4 * j) (MQ below (va_Qv (fun S2 => ∃ u, RoB S2 dE a u 8 48 ∧ NewW S S2 u 68 ∧ Fr S S2 (fun x => x = a)) (PreW D cy B s0) (Aw B)) [.ref a].toArray s 68 328 (Aw B)) (F0 m 77 ls []) := by
          intro d_lp2
          induction d_lp2 with
          | zero => intro j u Sk H locs ls _ hd; exact absurd hd (Nat.not_lt_zero _)
          | succ d_lp2 ih_lp2 =>
            intro j u Sk H locs ls hk hd hG hN hF hW hS hl
            refine lv_iload_n hx hb dX8_init_77 rfl (lv_at hl 1 rfl) ?_
            refine lv_bipush (v := 48) hx hb dX8_init_78 (by decide) ?_
            refine lv_icmp_ge (tgt := 102) hx hb dX8_init_80 (by decide) (fun c_80 => ?_) (fun c_80 => ?_)
            · have q_80 : 48 ≤ j := (nI_leI (a := 48) (b := j) (by omega) (by omega)).mp c_80
              exact k_vret C hr hlk hW hS hB ⟨u, by rw [show j = 48 by omega] at hG; exact hG, by rw [show j = 48 by omega] at hN; exact hN, hF⟩ (by show _ ≤ 68; omega) (by show _ ≤ 328; omega) dX8_init_102
            · have q_80 : ¬ (48 ≤ j) := fun z => c_80 ((nI_leI (a := 48) (b := j) (by omega) (by omega)).mpr z)
              have hu1 := hG.2.2.2.1.2.1
              refine lv_aload_n hx hb dX8_init_83 rfl (lv_at hl 0 rfl) ?_
              refine g_802 C hinX8 hW hG.1.1 hG.2.2.2.1.1 l26 dX8_init_84 ?_
              refine lv_iload_n hx hb dX8_init_87 rfl (lv_at hl 1 rfl) ?_
              refine n_0 C hinX0 hW hS hB (show Cond.classLink RX8 24 RX0 ∈ wsX8_init by decide +kernel) (show Cond.instantiable RX0 4 ∈ wsX8_init by decide +kernel) (show Cond.initialized RX0 ∈ wsX8_init by decide +kernel) (by show _ ≤ 68; omega) (by show _ ≤ 328; omega) dX8_init_88 (fun c9 S1 H e1 cn hW hS => ?_)
              subst e1
              replace hu1 : IsAt (nO Sk c9 0) 16 (u 2) := nO_ext cn _ _ hu1
              have h_c9 : IsAt (nO Sk c9 0) 0 c9 := nO_is
              refine lv_dup hx hb dX8_init_91 rfl ?_
              refine k_callIN (As := []) (rest := [.ref c9, .int (nI j), .ref (u 2)]) C hml (c_X0_init h_c9) ⟨va_cnB 0 hts ggX8_init_X0_init rfl rfl rfl (va_Nw.warmM hEn.2.2 hA.2.2.2.2.2.2.2.2.2) (hts (.initialized yX0_init.cls) (by decide +kernel)) (by decide +kernel) ⟨by decide, by decide⟩, rfl, hts (.instanceMethod yX0_init) (by decide +kernel)⟩ hW hS hB rfl hl.1 rfl (Nat.le_of_ble_eq_true rfl) dX8_init_92 ⟨by show _ ≤ 68; omega, by show _ ≤ 328; omega⟩ (fun T2 H locs hp9 hW hS => ?_)
              subst hp9
              refine a_Accountstore C hW hS (j := j) hu1 hG.2.2.2.1.2.2 rfl (by omega) (by omega) h_c9 dX8_init_95 (fun S1 H locs e1 hW hS => ?_)
              subst e1
              refine lv_iinc (v := nI (j + 1)) (lv' := [(1, .int (nI (j + 1))), (0, .ref a)]) hx hb dX8_init_96 hl (k := 1) rfl (nI_add j 1) (by decide) rfl (fun ls hl => ?_)
              refine lv_goto (tgt := 77) hx hb dX8_init_99 (by decide) ?_
              exact W.widen (by omega) (by omega) (ih_lp2 (j + 1) _ _ _ _ ls (by omega) (by omega) (ro_ac hG hN hF (by omega) cn).1 (ro_ac hG hN hF (by omega) cn).2.1 (ro_ac hG hN hF (by omega) cn).2.2 hW hS (lv_sub hl [1, 0] rfl))
        exact W.widen (by omega) (by omega) (lp2 (48 - 0 + 1) 0 _ _ _ _ ls (by omega) (by omega) (by rw [show i = 8 by omega] at hG; exact hG) (by rw [show i = 8 by omega] at hN; exact hN) hF hW hS (lv_sub hl [1, 0] rfl))
      · have q_53 : ¬ (8 ≤ i) := fun z => c_53 ((nI_leI (a := 8) (b := i) (by omega) (by omega)).mpr z)
        have hu1 := hG.2.2.1.2.1
        refine lv_aload_n hx hb dX8_init_56 rfl (lv_at hl 0 rfl) ?_
        refine g_801 C hinX8 hW hG.1.1 hG.2.2.1.1 l20 dX8_init_57 ?_
        refine lv_iload_n hx hb dX8_init_60 rfl (lv_at hl 1 rfl) ?_
        refine n_1 C hinX1 hW hS hB (show Cond.classLink RX8 18 RX1 ∈ wsX8_init by decide +kernel) (show Cond.instantiable RX1 6 ∈ wsX8_init by decide +kernel) (show Cond.initialized RX1 ∈ wsX8_init by decide +kernel) (by show _ ≤ 68; omega) (by show _ ≤ 328; omega) dX8_init_61 (fun c9 S1 H e1 cn hW hS => ?_)
        subst e1
        replace hu1 : IsAt (nO Sk c9 1) 17 (u 1) := nO_ext cn _ _ hu1
        have h_c9 : IsAt (nO Sk c9 1) 1 c9 := nO_is
        refine lv_dup hx hb dX8_init_64 rfl ?_
        refine k_callIN (As := []) (rest := [.ref c9, .int (nI i), .ref (u 1)]) C hml (c_X1_init hSd h_c9) ⟨va_cnB 0 hts ggX8_init_X1_init rfl rfl rfl (va_Nw.warmM hEn.2.2 hA.2.2.2.2.2.2.2.2.1) (hts (.initialized yX1_init.cls) (by decide +kernel)) (by decide +kernel) ⟨by decide, by decide⟩, rfl, hts (.instanceMethod yX1_init) (by decide +kernel)⟩ hW hS hB rfl hl.1 rfl (Nat.le_of_ble_eq_true rfl) dX8_init_65 ⟨by show _ ≤ 68; omega, by show _ ≤ 328; omega⟩ (fun T3 H locs hp9 hW hS => ?_)
        obtain ⟨b, bn, e9⟩ := hp9
        subst e9
        replace hu1 := (ls_new (dE := dE) bn).2.1.1 _ _ hu1
        replace h_c9 := (ls_new (dE := dE) bn).2.1.1 _ _ h_c9
        refine a_Bucketstore C hW hS (j := i) hu1 hG.2.2.1.2.2 rfl (by omega) (by omega) h_c9 dX8_init_68 (fun S1 H locs e1 hW hS => ?_)
        subst e1
        refine lv_iinc (v := nI (i + 1)) (lv' := [(1, .int (nI (i + 1))), (0, .ref a)]) hx hb dX8_init_69 hl (k := 1) rfl (nI_add i 1) (by decide) rfl (fun ls hl => ?_)
        refine lv_goto (tgt := 50) hx hb dX8_init_72 (by decide) ?_
        exact W.widen (by omega) (by omega) (ih (i + 1) _ _ _ _ ls (by omega) (by omega) (ro_bk hG hN hF (by omega) cn bn).1 (ro_bk hG hN hF (by omega) cn bn).2.1 (ro_bk hG hN hF (by omega) cn bn).2.2 hW hS (lv_sub hl [1, 0] rfl))
  exact W.widen (by omega) (by omega) (lp (8 - 0 + 1) 0 _ _ _ _ ls (by omega) (by omega) (ro_start (dE := dE) h0 hz qn r1n r2n r3n).1 (ro_start (dE := dE) h0 hz qn r1n r2n r3n).2.1 (ro_start (dE := dE) h0 hz qn r1n r2n r3n).2.2 hW hS (lv_sub hl [1, 0] rfl))
set_option maxRecDepth 100000 in
set_option maxHeartbeats 1000000 in
theorem c_X10_init {l : Launch} {D : va_G} {cy : Nat → ClassId} {B : Nat} {s0 : State} {S : PS} {dE a : Nat} (hSd : Sd dE B s0) (hA : EnvA s0) (h : IsAt S 10 a) : KV l yX10_init wsX10_init ({ frames := 6, cells := 186, slots := 1296, locals := 116 }) D cy B s0 [.ref a] S (fun S2 => ∃ w, LgK S2 dE a w 6 ∧ NewW S S2 w 186 ∧ Fr S S2 (fun x => x = a)) 186 1296 := by
  refine k_body (own := RX10) (cc := cX10_init) (maxL := 2) (ret := none) rfl (by decide) rfl (Nat.le_of_ble_eq_true rfl) ?_
  intro p e s m below meth c C hml hr hlk hnm hB hW ls hl
  obtain ⟨hx, hb, hts, hown, hK, hEn⟩ := id C
  have hS : va_S (Aw B) s.heap s.heap [] := va_S.rf
  have hinX10 : ∀ w ∈ wsX100, w ∈ wsX10_init := by decide +kernel
  have hinX3 : ∀ w ∈ wsX30, w ∈ wsX10_init := by decide +kernel
  have hinX7 : ∀ w ∈ wsX70, w ∈ wsX10_init := by decide +kernel
  have hinX8 : ∀ w ∈ wsX80, w ∈ wsX10_init := by decide +kernel
  have l10 : Cond.fieldLink RX10 10 "LeaseGates" "lender" "LLeaseGates$Root;" ∈ wsX10_init := by decide +kernel
  have l19 : Cond.fieldLink RX10 19 "LeaseGates" "post" "LLeaseGates$Post;" ∈ wsX10_init := by decide +kernel
  have l25 : Cond.fieldLink RX10 25 "LeaseGates" "spenders" "[LLeaseGates$Gate;" ∈ wsX10_init := by decide +kernel
  have hl : lv_has ls 2 [(0, .ref a)] := hl
  have h0 := h
  refine lv_aload_n hx hb dX10_init_0 rfl (lv_at hl 0 rfl) ?_
  refine W.objInit hx hb hown (hts (.methodLink RX10 1 objectInit) (by decide +kernel)) (hts (.instanceMethod objectInit) (by decide +kernel)) (hts _ (List.mem_of_getElem? (l := wsX10_init) (i := 3) rfl)) rfl (by rw [hml]; exact hl.1) rfl dX10_init_1 (Nat.le_of_ble_eq_true rfl) (Nat.le_of_ble_eq_true rfl) ?_
  refine W.eq (g2 := F0 m 4 ls []) rfl ?_
  
  refine lv_aload_n hx hb dX10_init_4 rfl (lv_at hl 0 rfl) ?_
  refine n_8 C hinX8 hW hS hB (show Cond.classLink RX10 7 RX8 ∈ wsX10_init by decide +kernel) (show Cond.instantiable RX8 6 ∈ wsX10_init by decide +kernel) (show Cond.initialized RX8 ∈ wsX10_init by decide +kernel) (Nat.le_of_ble_eq_true rfl) (Nat.le_of_ble_eq_true rfl) dX10_init_5 (fun q S1 H e1 qn hW hS => ?_)
  subst e1
  replace h : IsAt (nO S q 8) 10 (a) := nO_ext qn _ _ h
  have h_q : IsAt (nO S q 8) 8 q := nO_is
  refine lv_dup hx hb dX10_init_8 rfl ?_
  refine k_callI (As := []) (rest := [.ref q, .ref a]) C hml (c_X8_init hSd hA h_q Zr.new) (cwI 0 hts ggX10_init_X8_init rfl rfl rfl (hts (.initialized yX8_init.cls) (by decide +kernel)) (hts (.methodLink RX10 9 yX8_init) (by decide +kernel)) (hts (.instanceMethod yX8_init) (by decide +kernel)) rfl (by decide +kernel) ⟨by decide, by decide⟩) hW hS hB rfl hl.1 rfl (Nat.le_of_ble_eq_true rfl) dX10_init_9 ⟨Nat.le_of_ble_eq_true rfl, Nat.le_of_ble_eq_true rfl⟩ (fun S9 H locs hp9 hW hS => ?_)
  obtain ⟨u9, hR9, hN9, hF9⟩ := hp9
  replace h := hF9.1 _ _ h
  replace h_q := hF9.1 _ _ h_q
  refine p_1000 C hinX10 hW hS h l10 hnm rfl dX10_init_12 (fun S1 H locs e1 hW hS => ?_)
  subst e1
  refine lv_aload_n hx hb dX10_init_15 rfl (lv_at hl 0 rfl) ?_
  refine n_7 C hinX7 hW hS hB (show Cond.classLink RX10 16 RX7 ∈ wsX10_init by decide +kernel) (show Cond.instantiable RX7 2 ∈ wsX10_init by decide +kernel) (show Cond.initialized RX7 ∈ wsX10_init by decide +kernel) (Nat.le_of_ble_eq_true rfl) (Nat.le_of_ble_eq_true rfl) dX10_init_16 (fun pp S1 H e1 ppn hW hS => ?_)
  subst e1
  replace h : IsAt (nO (sR S9 1000 a (some q)) pp 7) 10 (a) := nO_ext ppn _ _ h
  replace h_q : IsAt (nO (sR S9 1000 a (some q)) pp 7) 8 (q) := nO_ext ppn _ _ h_q
  have h_pp : IsAt (nO (sR S9 1000 a (some q)) pp 7) 7 pp := nO_is
  refine lv_dup hx hb dX10_init_19 rfl ?_
  refine k_callIN (As := []) (rest := [.ref pp, .ref a]) C hml (c_X7_init hA h_pp) ⟨va_cnB 0 hts ggX10_init_X7_init rfl rfl rfl (va_Nw.warmM hEn.2.2 hA.2.2.2.2.2.1) (hts (.initialized yX7_init.cls) (by decide +kernel)) (by decide +kernel) ⟨by decide, by decide⟩, rfl, hts (.instanceMethod yX7_init) (by decide +kernel)⟩ hW hS hB rfl hl.1 rfl (Nat.le_of_ble_eq_true rfl) dX10_init_20 ⟨Nat.le_of_ble_eq_true rfl, Nat.le_of_ble_eq_true rfl⟩ (fun S9 H locs hp9 hW hS => ?_)
  obtain ⟨b, bn, e9⟩ := hp9
  subst e9
  replace h := nA_ext (k := 20) (n := 300) bn _ _ h
  refine p_1002 C hinX10 hW hS h l19 hnm rfl dX10_init_23 (fun S1 H locs e1 hW hS => ?_)
  subst e1
  refine lv_aload_n hx hb dX10_init_26 rfl (lv_at hl 0 rfl) ?_
  refine lv_bipush (v := 6) hx hb dX10_init_27 (by decide) ?_
  refine n_19 C hW hS hB (N := 6) (show Cond.classLink RX10 23 "LeaseGates$Gate" ∈ wsX10_init by decide +kernel) (hA.2.2.2.1.moved hEn.1) rfl (by omega) (Nat.le_of_ble_eq_true rfl) (Nat.le_of_ble_eq_true rfl) dX10_init_29 (fun r S1 H e1 rn hW hS => ?_)
  subst e1
  replace h : IsAt (nA (sR (sR (nA (nO (sR S9 1000 a (some q)) pp 7) b 20 300) 700 pp (some b)) 1002 a (some pp)) r 19 6) 10 (a) := nA_ext rn _ _ h
  have h_r : IsAt (nA (sR (sR (nA (nO (sR S9 1000 a (some q)) pp 7) b 20 300) 700 pp (some b)) 1002 a (some pp)) r 19 6) 19 r := nA_is
  refine p_1001 C hinX10 hW hS h l25 hnm rfl dX10_init_32 (fun S1 H locs e1 hW hS => ?_)
  subst e1
  refine lv_iconst (v := 0) hx hb dX10_init_35 (by decide) ?_
  refine lv_istore_n (lv' := [(1, .int 0), (0, .ref a)]) hx hb dX10_init_36 rfl hl (by decide) rfl (fun ls hl => ?_)
  have lp : ∀ (d i : Nat) (w : Nat → Nat) (Sk : PS) (H : Heap) (locs : List Loc) (ls : Array Slot), i ≤ 6 → 6 - i < d → LgK Sk dE a w i → NewW S Sk w (72 + 19 * i) → Fr S Sk (fun x => x = a) → PW D cy B Sk H → va_S (Aw B) s.heap H locs → lv_has ls 2 [(0, .ref a), (1, .int (nI i))] → W p l e ({ frames := 6, cells := 186, slots := 1296, locals := 116 }) s m [.ref a].toArray below meth c H locs (72 + 19 * i) (642 + 109 * i) (MQ below (va_Qv (fun S2 => ∃ w, LgK S2 dE a w 6 ∧ NewW S S2 w 186 ∧ Fr S S2 (fun x => x = a)) (PreW D cy B s0) (Aw B)) [.ref a].toArray s 186 1296 (Aw B)) (F0 m 37 ls []) := by
    intro d
    induction d with
    | zero => intro i w Sk H locs ls _ hd; exact absurd hd (Nat.not_lt_zero _)
    | succ d ih =>
      intro i w Sk H locs ls hk hd hG hN hF hW hS hl
      refine lv_iload_n hx hb dX10_init_37 rfl (lv_at hl 1 rfl) ?_
      refine lv_bipush (v := 6) hx hb dX10_init_38 (by decide) ?_
      refine lv_icmp_ge (tgt := 63) hx hb dX10_init_40 (by decide) (fun c_40 => ?_) (fun c_40 => ?_)
      · have q_40 : 6 ≤ i := (nI_leI (a := 6) (b := i) (by omega) (by omega)).mp c_40
        exact k_vret C hr hlk hW hS hB ⟨w, by rw [show i = 6 by omega] at hG; exact hG, by rw [show i = 6 by omega] at hN; exact hN, hF⟩ (by show _ ≤ 186; omega) (by show _ ≤ 1296; omega) dX10_init_63
      · have q_40 : ¬ (6 ≤ i) := fun z => c_40 ((nI_leI (a := 6) (b := i) (by omega) (by omega)).mpr z)
        have hu1 := hG.2.2.2.1.2.1
        refine lv_aload_n hx hb dX10_init_43 rfl (lv_at hl 0 rfl) ?_
        refine g_1001 C hinX10 hW hG.1 hG.2.2.2.1.1 l25 dX10_init_44 ?_
        refine lv_iload_n hx hb dX10_init_47 rfl (lv_at hl 1 rfl) ?_
        refine n_3 C hinX3 hW hS hB (show Cond.classLink RX10 23 RX3 ∈ wsX10_init by decide +kernel) (show Cond.instantiable RX3 3 ∈ wsX10_init by decide +kernel) (show Cond.initialized RX3 ∈ wsX10_init by decide +kernel) (by show _ ≤ 186; omega) (by show _ ≤ 1296; omega) dX10_init_48 (fun c9 S1 H e1 cn hW hS => ?_)
        subst e1
        replace hu1 : IsAt (nO Sk c9 3) 19 (w 71) := nO_ext cn _ _ hu1
        have h_c9 : IsAt (nO Sk c9 3) 3 c9 := nO_is
        refine lv_dup hx hb dX10_init_51 rfl ?_
        refine lv_iload_n hx hb dX10_init_52 rfl (lv_at hl 1 rfl) ?_
        refine k_callI (As := [.int (nI i)]) (rest := [.ref c9, .int (nI i), .ref (w 71)]) C hml (c_X3_init hSd hA h_c9 Zr.new) (cwI 1 hts ggX10_init_X3_init rfl rfl rfl (hts (.initialized yX3_init.cls) (by decide +kernel)) (hts (.methodLink RX10 29 yX3_init) (by decide +kernel)) (hts (.instanceMethod yX3_init) (by decide +kernel)) rfl (by decide +kernel) ⟨by decide, by decide⟩) hW hS hB rfl hl.1 rfl (Nat.le_of_ble_eq_true rfl) dX10_init_53 ⟨by show _ ≤ 186; omega, by show _ ≤ 1296; omega⟩ (fun S9 H locs hp9 hW hS => ?_)
        obtain ⟨u9, g9, n9, f9⟩ := hp9
        replace hu1 := f9.1 _ _ hu1
        replace h_c9 := f9.1 _ _ h_c9
        have hw71 : aN S9 (w 71) = 6 := ((Fr0.made cn f9).2 _ hG.2.2.2.1.2.1.1 (fun z => z)).2.2.2.1.trans hG.2.2.2.1.2.2
        refine a_Gatestore C hW hS (j := i) hu1 hw71 rfl (by omega) (by omega) h_c9 dX10_init_56 (fun S1 H locs e1 hW hS => ?_)
        subst e1
        refine lv_iinc (v := nI (i + 1)) (lv' := [(1, .int (nI (i + 1))), (0, .ref a)]) hx hb dX10_init_57 hl (k := 1) rfl (nI_add i 1) (by decide) rfl (fun ls hl => ?_)
        refine lv_goto (tgt := 37) hx hb dX10_init_60 (by decide) ?_
        exact W.widen (by omega) (by omega) (ih (i + 1) _ _ _ _ ls (by omega) (by omega) (lg_step hG hN hF (by omega) cn g9 n9 f9).1 (lg_step hG hN hF (by omega) cn g9 n9 f9).2.1 (lg_step hG hN hF (by omega) cn g9 n9 f9).2.2 hW hS (lv_sub hl [1, 0] rfl))
  exact W.widen (by omega) (by omega) (lp (6 - 0 + 1) 0 _ _ _ _ ls (by omega) (by omega) (lg_start h0 qn hR9 hN9 hF9 ppn bn rn).1 (lg_start h0 qn hR9 hN9 hF9 ppn bn rn).2.1 (lg_start h0 qn hR9 hN9 hF9 ppn bn rn).2.2 hW hS (lv_sub hl [1, 0] rfl))
