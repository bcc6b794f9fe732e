set_option maxRecDepth 100000 in
set_option maxHeartbeats 1000000 in
theorem c_Jx4a65c_grow_d5877 {l : Launch} {D : va_G} {cy : Nat → ClassId} {B : Nat} {s0 : State} {S : PS} {dE a ea mi : Nat} {L : List Nat} (h : AL S dE a ea L) (hf : aN S ea = L.length) (hA : IsAt S 21 ea) (h10 : 10 ≤ L.length) (hel : ∀ j, j < L.length → ∀ y, aQ S ea j = some y → IsAt S 4 y) (hca : va_Nw (.castable "LeaseGates$Hold" "java/lang/Object") s0) (hMi : va_Mi "[Ljava/lang/Object;" mi s0) (hDc : va_Dc s0) (hAO : va_AO "java/lang/Object" s0) : KQ l yJx4a65c_grow_d5877 wsJx4a65c_grow_d5877 ({ frames := 4, cells := 1, slots := 1100, locals := 127 }) D cy B s0 [.ref a] S (fun r S2 => ∃ q, q ∉ pL S ∧ r = some q ∧ S2 = sR (cR (nA S q 21 (L.length + L.length / 2)) ea q 0 0 L.length) 1201 a (some q)) 1 1100 := by
  refine k_body (own := RJx4a65c) (cc := cJx4a65c_grow_d5877) (maxL := 1) (ret := (some (.array (.object "java/lang/Object")))) rfl (by decide) rfl (Nat.le_of_ble_eq_true rfl) ?_
  intro p e s m below meth c C hml hr hlk hnm hB hW ls hl
  obtain ⟨hx, hb, hts, hown, hK, hEn⟩ := id C
  have hS : va_S (Aw B) s.heap s.heap [] := va_S.rf
  have hinJx4a65c : ∀ w ∈ wsJx4a65c0, w ∈ wsJx4a65c_grow_d5877 := by decide +kernel
  have l48 : Cond.fieldLink RJx4a65c 48 "java/util/ArrayList" "size" "I" ∈ wsJx4a65c_grow_d5877 := by decide +kernel
  have hl : lv_has ls 1 [(0, .ref a)] := hl
  have hl4 := h.2.2.2.1
  refine lv_aload_n hx hb dJx4a65c_grow_d5877_0 rfl (lv_at hl 0 rfl) ?_
  refine lv_aload_n hx hb dJx4a65c_grow_d5877_1 rfl (lv_at hl 0 rfl) ?_
  refine g_1202 C hinJx4a65c hW h.1 l48 dJx4a65c_grow_d5877_2 ?_
  refine top_i (show fI S 1202 a = nI L.length from h.2.2.1) ?_
  refine lv_iconst (v := 1) hx hb dJx4a65c_grow_d5877_5 (by decide) ?_
  refine lv_iadd hx hb dJx4a65c_grow_d5877_6 ?_
  refine top_i (show (nI L.length) + 1 = nI (L.length + 1) from nI_add L.length 1) ?_
  refine k_callVq (As := [.int (nI (L.length + 1))]) (rest := []) C hml (c_Jx4a65c_grow_92f84 h hf hA h10 hel hca hMi hDc hAO) (cwV 1 hts gJx4a65c_grow_d5877_Jx4a65c_grow_92f84 rfl rfl rfl (by decide +kernel) ⟨by decide, by decide⟩) hW hS hB (h.1).1 (pAt_12 (h.1).2) rfl rfl hl.1 rfl (Nat.le_of_ble_eq_true rfl) dJx4a65c_grow_d5877_7 ⟨Nat.le_of_ble_eq_true rfl, Nat.le_of_ble_eq_true rfl⟩ (fun r9 S1 H locs hp9 hW hS => ?_)
  obtain ⟨q, qn, e9, hq9⟩ := hp9
  subst e9
  exact k_aret C hr hlk hW hS hB ⟨q, qn, rfl, hq9⟩ (Or.inr ⟨_, rfl⟩) (Nat.le_refl _) (Nat.le_refl _) dJx4a65c_grow_d5877_10
set_option maxRecDepth 100000 in
set_option maxHeartbeats 1000000 in
theorem c_Jx4a65c_grow_d5877_0 {l : Launch} {D : va_G} {cy : Nat → ClassId} {B : Nat} {s0 : State} {S : PS} {dE a mi : Nat} (hd : Sd dE B s0) (h : AL S dE a dE []) (hMi : va_Mi "[Ljava/lang/Object;" mi s0) (hDc : va_Dc s0) (hAO : va_AO "java/lang/Object" s0) : KQ l yJx4a65c_grow_d5877 wsJx4a65c_grow_d5877 ({ frames := 4, cells := 1, slots := 1100, locals := 127 }) D cy B s0 [.ref a] S (fun r S2 => ∃ q, q ∉ pL S ∧ r = some q ∧ S2 = sR (nA S q 21 10) 1201 a (some q)) 1 1100 := by
  refine k_body (own := RJx4a65c) (cc := cJx4a65c_grow_d5877) (maxL := 1) (ret := (some (.array (.object "java/lang/Object")))) rfl (by decide) rfl (Nat.le_of_ble_eq_true rfl) ?_
  intro p e s m below meth c C hml hr hlk hnm hB hW ls hl
  obtain ⟨hx, hb, hts, hown, hK, hEn⟩ := id C
  have hS : va_S (Aw B) s.heap s.heap [] := va_S.rf
  have hinJx4a65c : ∀ w ∈ wsJx4a65c0, w ∈ wsJx4a65c_grow_d5877 := by decide +kernel
  have l48 : Cond.fieldLink RJx4a65c 48 "java/util/ArrayList" "size" "I" ∈ wsJx4a65c_grow_d5877 := by decide +kernel
  have hl : lv_has ls 1 [(0, .ref a)] := hl
  refine lv_aload_n hx hb dJx4a65c_grow_d5877_0 rfl (lv_at hl 0 rfl) ?_
  refine lv_aload_n hx hb dJx4a65c_grow_d5877_1 rfl (lv_at hl 0 rfl) ?_
  refine g_1202 C hinJx4a65c hW h.1 l48 dJx4a65c_grow_d5877_2 ?_
  refine top_i (show fI S 1202 a = 0 from h.2.2.1) ?_
  refine lv_iconst (v := 1) hx hb dJx4a65c_grow_d5877_5 (by decide) ?_
  refine lv_iadd hx hb dJx4a65c_grow_d5877_6 ?_
  refine top_i (show 0 + 1 = nI 1 from rfl) ?_
  refine k_callVq (As := [.int (nI 1)]) (rest := []) C hml (c_Jx4a65c_grow_92f84_0 hd h.1 h.2.1 hMi hDc hAO) (cwV 1 hts gJx4a65c_grow_d5877_Jx4a65c_grow_92f84 rfl rfl rfl (by decide +kernel) ⟨by decide, by decide⟩) hW hS hB (h.1).1 (pAt_12 (h.1).2) rfl rfl hl.1 rfl (Nat.le_of_ble_eq_true rfl) dJx4a65c_grow_d5877_7 ⟨Nat.le_of_ble_eq_true rfl, Nat.le_of_ble_eq_true rfl⟩ (fun r9 S1 H locs hp9 hW hS => ?_)
  obtain ⟨q, qn, e9, hq9⟩ := hp9
  subst e9
  exact k_aret C hr hlk hW hS hB ⟨q, qn, rfl, hq9⟩ (Or.inr ⟨_, rfl⟩) (Nat.le_refl _) (Nat.le_refl _) dJx4a65c_grow_d5877_10
set_option maxRecDepth 100000 in
set_option maxHeartbeats 1000000 in
theorem c_Jx4a65c_add_72be8_r {l : Launch} {D : va_G} {cy : Nat → ClassId} {B : Nat} {s0 : State} {S : PS} {dE a ea n x : Nat} {L : List Nat} (h : AL S dE a ea L) (hA : IsAt S 21 ea) (hn : aN S ea = n) (hr0 : L.length < n) (h10 : 10 ≤ n) (h7 : n ≤ 700) (hl0 : L.length < 400) (hx4 : IsAt S 4 x) (hca : va_Nw (.castable "LeaseGates$Hold" "java/lang/Object") s0) : KV l yJx4a65c_add_72be8 wsJx4a65c_add_72be8 ({ frames := 5, cells := 1, slots := 1100, locals := 147 }) D cy B s0 [.ref a, .ref x, .ref ea, .int (nI L.length)] S (fun S2 => ADDP S S2 dE a ea L x) 1 1100 := by
  refine k_body (own := RJx4a65c) (cc := cJx4a65c_add_72be8) (maxL := 4) (ret := none) rfl (by decide) rfl (Nat.le_of_ble_eq_true rfl) ?_
  intro p e s m below meth c C hml hr hlk hnm hB hW ls hl
  obtain ⟨hx, hb, hts, hown, hK, hEn⟩ := id C
  have hS : va_S (Aw B) s.heap s.heap [] := va_S.rf
  have hinJx4a65c : ∀ w ∈ wsJx4a65c0, w ∈ wsJx4a65c_add_72be8 := by decide +kernel
  have l48 : Cond.fieldLink RJx4a65c 48 "java/util/ArrayList" "size" "I" ∈ wsJx4a65c_add_72be8 := by decide +kernel
  have hl : lv_has ls 4 [(0, .ref a), (1, .ref x), (2, .ref ea), (3, .int (nI L.length))] := hl
  refine lv_iload_n hx hb dJx4a65c_add_72be8_0 rfl (lv_at hl 3 rfl) ?_
  refine lv_aload_n hx hb dJx4a65c_add_72be8_1 rfl (lv_at hl 2 rfl) ?_
  refine a_Objectlen (v := nI n) C hW hA (by rw [hn]) dJx4a65c_add_72be8_2 ?_
  refine lv_icmp_ne (tgt := 11) hx hb dJx4a65c_add_72be8_3 (by decide) (fun c_3 => ?_) (fun c_3 => absurd ((nI_eq (by omega) (by omega)).mp c_3) (by omega))
  have q_3 : ¬ (L.length = n) := fun z => c_3 ((nI_eq (a := L.length) (b := n) (by omega) (by omega)).mpr z)
  refine lv_aload_n hx hb dJx4a65c_add_72be8_11 rfl (lv_at hl 2 rfl) ?_
  refine lv_iload_n hx hb dJx4a65c_add_72be8_12 rfl (lv_at hl 3 rfl) ?_
  refine lv_aload_n hx hb dJx4a65c_add_72be8_13 rfl (lv_at hl 1 rfl) ?_
  refine a_Object4store C hW hS (j := L.length) hA hn rfl (by omega) (by omega) hx4 hca dJx4a65c_add_72be8_14 (fun S1 H locs e1 hW hS => ?_)
  subst e1
  refine lv_aload_n hx hb dJx4a65c_add_72be8_15 rfl (lv_at hl 0 rfl) ?_
  refine lv_iload_n hx hb dJx4a65c_add_72be8_16 rfl (lv_at hl 3 rfl) ?_
  refine lv_iconst (v := 1) hx hb dJx4a65c_add_72be8_17 (by decide) ?_
  refine lv_iadd hx hb dJx4a65c_add_72be8_18 ?_
  refine top_i (show (nI L.length) + 1 = nI (L.length + 1) from nI_add L.length 1) ?_
  refine p_1202 C hinJx4a65c hW hS h.1 l48 dJx4a65c_add_72be8_19 (fun S1 H locs e1 hW hS => ?_)
  subst e1
  exact k_vret C hr hlk hW hS hB (add_room h hA hn hr0 h10 h7 hl0) (Nat.zero_le _) (Nat.zero_le _) dJx4a65c_add_72be8_22
set_option maxRecDepth 100000 in
set_option maxHeartbeats 1000000 in
theorem c_Jx4a65c_add_72be8_f {l : Launch} {D : va_G} {cy : Nat → ClassId} {B : Nat} {s0 : State} {S : PS} {dE a ea x mi : Nat} {L : List Nat} (h : AL S dE a ea L) (hf : aN S ea = L.length) (hA : IsAt S 21 ea) (h10 : 10 ≤ L.length) (hl0 : L.length < 400) (hx4 : IsAt S 4 x) (hel : ∀ j, j < L.length → ∀ y, aQ S ea j = some y → IsAt S 4 y) (hca : va_Nw (.castable "LeaseGates$Hold" "java/lang/Object") s0) (hMi : va_Mi "[Ljava/lang/Object;" mi s0) (hDc : va_Dc s0) (hAO : va_AO "java/lang/Object" s0) : KV l yJx4a65c_add_72be8 wsJx4a65c_add_72be8 ({ frames := 5, cells := 1, slots := 1100, locals := 147 }) D cy B s0 [.ref a, .ref x, .ref ea, .int (nI L.length)] S (fun S2 => ADDP S S2 dE a ea L x) 1 1100 := by
  refine k_body (own := RJx4a65c) (cc := cJx4a65c_add_72be8) (maxL := 4) (ret := none) rfl (by decide) rfl (Nat.le_of_ble_eq_true rfl) ?_
  intro p e s m below meth c C hml hr hlk hnm hB hW ls hl
  obtain ⟨hx, hb, hts, hown, hK, hEn⟩ := id C
  have hS : va_S (Aw B) s.heap s.heap [] := va_S.rf
  have hinJx4a65c : ∀ w ∈ wsJx4a65c0, w ∈ wsJx4a65c_add_72be8 := by decide +kernel
  have l48 : Cond.fieldLink RJx4a65c 48 "java/util/ArrayList" "size" "I" ∈ wsJx4a65c_add_72be8 := by decide +kernel
  have hl : lv_has ls 4 [(0, .ref a), (1, .ref x), (2, .ref ea), (3, .int (nI L.length))] := hl
  refine lv_iload_n hx hb dJx4a65c_add_72be8_0 rfl (lv_at hl 3 rfl) ?_
  refine lv_aload_n hx hb dJx4a65c_add_72be8_1 rfl (lv_at hl 2 rfl) ?_
  refine a_Objectlen (v := nI L.length) C hW hA (by rw [hf]) dJx4a65c_add_72be8_2 ?_
  refine lv_icmp_ne (tgt := 11) hx hb dJx4a65c_add_72be8_3 (by decide) (fun c_3 => absurd rfl c_3) (fun c_3 => ?_)
  have q_3 : L.length = L.length := (nI_eq (a := L.length) (b := L.length) (by omega) (by omega)).mp c_3
  refine lv_aload_n hx hb dJx4a65c_add_72be8_6 rfl (lv_at hl 0 rfl) ?_
  refine k_callVq (As := []) (rest := []) C hml (c_Jx4a65c_grow_d5877 h hf hA h10 hel hca hMi hDc hAO) (cwV 0 hts gJx4a65c_add_72be8_Jx4a65c_grow_d5877 rfl rfl rfl (by decide +kernel) ⟨by decide, by decide⟩) hW hS hB (h.1).1 (pAt_12 (h.1).2) rfl rfl hl.1 rfl (Nat.le_of_ble_eq_true rfl) dJx4a65c_add_72be8_7 ⟨Nat.le_of_ble_eq_true rfl, Nat.le_of_ble_eq_true rfl⟩ (fun r9 S1 H locs hp9 hW hS => ?_)
  obtain ⟨q, qn, e9, hq9⟩ := hp9
  subst e9
  subst hq9
  have hk9 : Ext S (sR (cR (nA S q 21 (L.length + L.length / 2)) ea q 0 0 L.length) 1201 a (some q)) := fun k2 b2 g2 => nA_ext (k := 21) (n := L.length + L.length / 2) qn k2 b2 g2
  refine lv_astore_n (lv' := [(2, .ref q), (0, .ref a), (1, .ref x), (3, .int (nI L.length))]) hx hb dJx4a65c_add_72be8_10 rfl hl (by decide) rfl (fun ls hl => ?_)
  refine lv_aload_n hx hb dJx4a65c_add_72be8_11 rfl (lv_at hl 0 rfl) ?_
  refine lv_iload_n hx hb dJx4a65c_add_72be8_12 rfl (lv_at hl 3 rfl) ?_
  refine lv_aload_n hx hb dJx4a65c_add_72be8_13 rfl (lv_at hl 2 rfl) ?_
  refine a_Object4store C hW hS (j := L.length) (nA_is (S := S) (n := L.length + L.length / 2)) (nA_aN (S := S) (k := 21) (n := L.length + L.length / 2)) rfl (by omega) (by omega) (hk9 _ _ hx4) hca dJx4a65c_add_72be8_14 (fun S1 H locs e1 hW hS => ?_)
  subst e1
  refine lv_aload_n hx hb dJx4a65c_add_72be8_15 rfl (lv_at hl 1 rfl) ?_
  refine lv_iload_n hx hb dJx4a65c_add_72be8_16 rfl (lv_at hl 3 rfl) ?_
  refine lv_iconst (v := 1) hx hb dJx4a65c_add_72be8_17 (by decide) ?_
  refine lv_iadd hx hb dJx4a65c_add_72be8_18 ?_
  refine top_i (show (nI L.length) + 1 = nI (L.length + 1) from nI_add L.length 1) ?_
  refine p_1202 C hinJx4a65c hW hS (hk9 _ _ h.1) l48 dJx4a65c_add_72be8_19 (fun S1 H locs e1 hW hS => ?_)
  subst e1
  exact k_vret C hr hlk hW hS hB (add_full h hA hf h10 hl0 rfl qn) (Nat.le_refl _) (Nat.le_refl _) dJx4a65c_add_72be8_22
set_option maxRecDepth 100000 in
set_option maxHeartbeats 1000000 in
theorem c_Jx4a65c_add_72be8_e {l : Launch} {D : va_G} {cy : Nat → ClassId} {B : Nat} {s0 : State} {S : PS} {dE a x mi : Nat} (hd : Sd dE B s0) (h : AL S dE a dE []) (hx4 : IsAt S 4 x) (hca : va_Nw (.castable "LeaseGates$Hold" "java/lang/Object") s0) (hMi : va_Mi "[Ljava/lang/Object;" mi s0) (hDc : va_Dc s0) (hAO : va_AO "java/lang/Object" s0) : KV l yJx4a65c_add_72be8 wsJx4a65c_add_72be8 ({ frames := 5, cells := 1, slots := 1100, locals := 147 }) D cy B s0 [.ref a, .ref x, .ref dE, .int (nI 0)] S (fun S2 => ADDP S S2 dE a dE [] x) 1 1100 := by
  refine k_body (own := RJx4a65c) (cc := cJx4a65c_add_72be8) (maxL := 4) (ret := none) rfl (by decide) rfl (Nat.le_of_ble_eq_true rfl) ?_
  intro p e s m below meth c C hml hr hlk hnm hB hW ls hl
  obtain ⟨hx, hb, hts, hown, hK, hEn⟩ := id C
  have hS : va_S (Aw B) s.heap s.heap [] := va_S.rf
  have hinJx4a65c : ∀ w ∈ wsJx4a65c0, w ∈ wsJx4a65c_add_72be8 := by decide +kernel
  have l48 : Cond.fieldLink RJx4a65c 48 "java/util/ArrayList" "size" "I" ∈ wsJx4a65c_add_72be8 := by decide +kernel
  have hl : lv_has ls 4 [(0, .ref a), (1, .ref x), (2, .ref dE), (3, .int (nI 0))] := hl
  refine lv_iload_n hx hb dJx4a65c_add_72be8_0 rfl (lv_at hl 3 rfl) ?_
  refine lv_aload_n hx hb dJx4a65c_add_72be8_1 rfl (lv_at hl 2 rfl) ?_
  refine k_dElen C hS hd dJx4a65c_add_72be8_2 ?_
  refine lv_icmp_ne (tgt := 11) hx hb dJx4a65c_add_72be8_3 (by decide) (fun c_3 => absurd rfl c_3) (fun c_3 => ?_)
  have q_3 : 0 = 0 := (nI_eq (a := 0) (b := 0) (by omega) (by omega)).mp c_3
  refine lv_aload_n hx hb dJx4a65c_add_72be8_6 rfl (lv_at hl 0 rfl) ?_
  refine k_callVq (As := []) (rest := []) C hml (c_Jx4a65c_grow_d5877_0 hd h hMi hDc hAO) (cwV 0 hts gJx4a65c_add_72be8_Jx4a65c_grow_d5877 rfl rfl rfl (by decide +kernel) ⟨by decide, by decide⟩) hW hS hB (h.1).1 (pAt_12 (h.1).2) rfl rfl hl.1 rfl (Nat.le_of_ble_eq_true rfl) dJx4a65c_add_72be8_7 ⟨Nat.le_of_ble_eq_true rfl, Nat.le_of_ble_eq_true rfl⟩ (fun r9 S1 H locs hp9 hW hS => ?_)
  obtain ⟨q, qn, e9, hq9⟩ := hp9
  subst e9
  subst hq9
  have hk9 : Ext S (sR (nA S q 21 10) 1201 a (some q)) := fun k2 b2 g2 => nA_ext (k := 21) (n := 10) qn k2 b2 g2
  refine lv_astore_n (lv' := [(2, .ref q), (0, .ref a), (1, .ref x), (3, .int (nI 0))]) hx hb dJx4a65c_add_72be8_10 rfl hl (by decide) rfl (fun ls hl => ?_)
  refine lv_aload_n hx hb dJx4a65c_add_72be8_11 rfl (lv_at hl 0 rfl) ?_
  refine lv_iload_n hx hb dJx4a65c_add_72be8_12 rfl (lv_at hl 3 rfl) ?_
  refine lv_aload_n hx hb dJx4a65c_add_72be8_13 rfl (lv_at hl 2 rfl) ?_
  refine a_Object4store C hW hS (j := 0) (nA_is (S := S) (n := 10)) (nA_aN (S := S) (k := 21) (n := 10)) rfl (by omega) (by omega) (hk9 _ _ hx4) hca dJx4a65c_add_72be8_14 (fun S1 H locs e1 hW hS => ?_)
  subst e1
  refine lv_aload_n hx hb dJx4a65c_add_72be8_15 rfl (lv_at hl 1 rfl) ?_
  refine lv_iload_n hx hb dJx4a65c_add_72be8_16 rfl (lv_at hl 3 rfl) ?_
  refine lv_iconst (v := 1) hx hb dJx4a65c_add_72be8_17 (by decide) ?_
  refine lv_iadd hx hb dJx4a65c_add_72be8_18 ?_
  refine top_i (show (nI 0) + 1 = nI (0 + 1) from nI_add 0 1) ?_
  refine top_i (show nI (0 + 1) = nI 1 from rfl) ?_
  refine p_1202 C hinJx4a65c hW hS (hk9 _ _ h.1) l48 dJx4a65c_add_72be8_19 (fun S1 H locs e1 hW hS => ?_)
  subst e1
  exact k_vret C hr hlk hW hS hB (add_empty h qn) (Nat.le_refl _) (Nat.le_refl _) dJx4a65c_add_72be8_22
theorem c_Jx4a65c_add_72be8 {l : Launch} {D : va_G} {cy : Nat → ClassId} {B : Nat} {s0 : State} {S : PS} {dE a ea x mi : Nat} {L : List Nat} (hd : Sd dE B s0) (h : AL S dE a ea L) (hl0 : L.length < 400) (hx4 : IsAt S 4 x) (hel : ∀ j, j < L.length → ∀ y, aQ S ea j = some y → IsAt S 4 y) (hca : va_Nw (.castable "LeaseGates$Hold" "java/lang/Object") s0) (hMi : va_Mi "[Ljava/lang/Object;" mi s0) (hDc : va_Dc s0) (hAO : va_AO "java/lang/Object" s0) : KV l yJx4a65c_add_72be8 wsJx4a65c_add_72be8 ({ frames := 5, cells := 1, slots := 1100, locals := 147 }) D cy B s0 [.ref a, .ref x, .ref ea, .int (nI L.length)] S (fun S2 => ADDP S S2 dE a ea L x) 1 1100 := by
  rcases h.2.2.2.2 with ⟨z1, z2⟩ | ⟨z1, z2, z3, z4, z5⟩
  · subst z1; subst z2
    exact c_Jx4a65c_add_72be8_e hd h hx4 hca hMi hDc hAO
  · by_cases z : L.length = aN S ea
    · exact c_Jx4a65c_add_72be8_f h z.symm z1 (by omega) hl0 hx4 hel hca hMi hDc hAO
    · exact c_Jx4a65c_add_72be8_r h z1 rfl (by omega) z2 z3 hl0 hx4 hca
set_option maxRecDepth 100000 in
set_option maxHeartbeats 1000000 in
theorem c_Jx4a65c_add_9ea2d {l : Launch} {D : va_G} {cy : Nat → ClassId} {B : Nat} {s0 : State} {S : PS} {dE a ea x mi : Nat} {L : List Nat} (hd : Sd dE B s0) (h : AL S dE a ea L) (hl0 : L.length < 400) (hx4 : IsAt S 4 x) (hel : ∀ j, j < L.length → ∀ y, aQ S ea j = some y → IsAt S 4 y) (hca : va_Nw (.castable "LeaseGates$Hold" "java/lang/Object") s0) (hMi : va_Mi "[Ljava/lang/Object;" mi s0) (hDc : va_Dc s0) (hAO : va_AO "java/lang/Object" s0) : KI l yJx4a65c_add_9ea2d wsJx4a65c_add_9ea2d ({ frames := 6, cells := 1, slots := 1100, locals := 170 }) D cy B s0 [.ref a, .ref x] S (fun r S2 => ADDP S S2 dE a ea L x ∧ r = 1) 1 1100 := by
  refine k_body (own := RJx4a65c) (cc := cJx4a65c_add_9ea2d) (maxL := 2) (ret := (some .boolean)) rfl (by decide) rfl (Nat.le_of_ble_eq_true rfl) ?_
  intro p e s m below meth c C hml hr hlk hnm hB hW ls hl
  obtain ⟨hx, hb, hts, hown, hK, hEn⟩ := id C
  have hS : va_S (Aw B) s.heap s.heap [] := va_S.rf
  have hinJx4a65c : ∀ w ∈ wsJx4a65c0, w ∈ wsJx4a65c_add_9ea2d := by decide +kernel
  have l9 : Cond.fieldLink RJx4a65c 9 "java/util/ArrayList" "elementData" "[Ljava/lang/Object;" ∈ wsJx4a65c_add_9ea2d := by decide +kernel
  have l48 : Cond.fieldLink RJx4a65c 48 "java/util/ArrayList" "size" "I" ∈ wsJx4a65c_add_9ea2d := by decide +kernel
  have l63 : Cond.fieldLink RJx4a65c 63 "java/util/ArrayList" "modCount" "I" ∈ wsJx4a65c_add_9ea2d := by decide +kernel
  have hl : lv_has ls 2 [(0, .ref a), (1, .ref x)] := hl
  have lsm : Cond.sameField "java/util/ArrayList" "java/util/AbstractList" "modCount" "I" ∈ wsJx4a65c_add_9ea2d := by decide +kernel
  refine lv_aload_n hx hb dJx4a65c_add_9ea2d_0 rfl (lv_at hl 0 rfl) ?_
  refine lv_dup hx hb dJx4a65c_add_9ea2d_1 rfl ?_
  refine g_1200 C hinJx4a65c hW h.1 l63 lsm dJx4a65c_add_9ea2d_2 ?_
  refine lv_iconst (v := 1) hx hb dJx4a65c_add_9ea2d_5 (by decide) ?_
  refine lv_iadd hx hb dJx4a65c_add_9ea2d_6 ?_
  refine p_1200 C hinJx4a65c hW hS h.1 l63 lsm dJx4a65c_add_9ea2d_7 (fun S1 H locs e1 hW hS => ?_)
  subst e1
  refine lv_aload_n hx hb dJx4a65c_add_9ea2d_10 rfl (lv_at hl 0 rfl) ?_
  refine lv_aload_n hx hb dJx4a65c_add_9ea2d_11 rfl (lv_at hl 1 rfl) ?_
  refine lv_aload_n hx hb dJx4a65c_add_9ea2d_12 rfl (lv_at hl 0 rfl) ?_
  refine g_1201 C hinJx4a65c hW h.1 h.2.1 l9 dJx4a65c_add_9ea2d_13 ?_
  refine lv_aload_n hx hb dJx4a65c_add_9ea2d_16 rfl (lv_at hl 0 rfl) ?_
  refine g_1202 C hinJx4a65c hW h.1 l48 dJx4a65c_add_9ea2d_17 ?_
  refine top_i (show fI (sI S 1200 a ((fI S 1200 a) + 1)) 1202 a = nI L.length from ((sI_f (by decide)).trans h.2.2.1)) ?_
  refine k_callVv (As := [.ref x, .ref ea, .int (nI L.length)]) (rest := []) C hml (c_Jx4a65c_add_72be8 hd h.mod hl0 hx4 hel hca hMi hDc hAO) (cwV 3 hts gJx4a65c_add_9ea2d_Jx4a65c_add_72be8 rfl rfl rfl (by decide +kernel) ⟨by decide, by decide⟩) hW hS hB (h.1).1 (pAt_12 (h.1).2) rfl rfl hl.1 rfl (Nat.le_of_ble_eq_true rfl) dJx4a65c_add_9ea2d_20 ⟨Nat.le_of_ble_eq_true rfl, Nat.le_of_ble_eq_true rfl⟩ (fun S1 H locs hp9 hW hS => ?_)
  refine lv_iconst (v := 1) hx hb dJx4a65c_add_9ea2d_23 (by decide) ?_
  exact k_zret C hr hlk hW hS hB ⟨hp9.mod, rfl⟩ (by decide) (Nat.le_refl _) (Nat.le_refl _) dJx4a65c_add_9ea2d_24
set_option maxRecDepth 100000 in
set_option maxHeartbeats 1000000 in
theorem c_Jx4a65c_grow_d5877_L {l : Launch} {D : va_G} {cy : Nat → ClassId} {B : Nat} {s0 : State} {S : PS} {dE a ea mi : Nat} {L : List Nat} (h : AL S dE a ea L) (hf : aN S ea = L.length) (hA : IsAt S 21 ea) (h10 : 10 ≤ L.length) (hel : ∀ j, j < L.length → ∀ y, aQ S ea j = some y → IsAt S 5 y) (hca : va_Nw (.castable "LeaseGates$Loan" "java/lang/Object") s0) (hMi : va_Mi "[Ljava/lang/Object;" mi s0) (hDc : va_Dc s0) (hAO : va_AO "java/lang/Object" s0) : KQ l yJx4a65c_grow_d5877 wsJx4a65c_grow_d5877 ({ frames := 4, cells := 1, slots := 1100, locals := 127 }) D cy B s0 [.ref a] S (fun r S2 => ∃ q, q ∉ pL S ∧ r = some q ∧ S2 = sR (cR (nA S q 21 (L.length + L.length / 2)) ea q 0 0 L.length) 1201 a (some q)) 1 1100 := by
  refine k_body (own := RJx4a65c) (cc := cJx4a65c_grow_d5877) (maxL := 1) (ret := (some (.array (.object "java/lang/Object")))) rfl (by decide) rfl (Nat.le_of_ble_eq_true rfl) ?_
  intro p e s m below meth c C hml hr hlk hnm hB hW ls hl
  obtain ⟨hx, hb, hts, hown, hK, hEn⟩ := id C
  have hS : va_S (Aw B) s.heap s.heap [] := va_S.rf
  have hinJx4a65c : ∀ w ∈ wsJx4a65c0, w ∈ wsJx4a65c_grow_d5877 := by decide +kernel
  have l48 : Cond.fieldLink RJx4a65c 48 "java/util/ArrayList" "size" "I" ∈ wsJx4a65c_grow_d5877 := by decide +kernel
  have hl : lv_has ls 1 [(0, .ref a)] := hl
  have hl4 := h.2.2.2.1
  refine lv_aload_n hx hb dJx4a65c_grow_d5877_0 rfl (lv_at hl 0 rfl) ?_
  refine lv_aload_n hx hb dJx4a65c_grow_d5877_1 rfl (lv_at hl 0 rfl) ?_
  refine g_1202 C hinJx4a65c hW h.1 l48 dJx4a65c_grow_d5877_2 ?_
  refine top_i (show fI S 1202 a = nI L.length from h.2.2.1) ?_
  refine lv_iconst (v := 1) hx hb dJx4a65c_grow_d5877_5 (by decide) ?_
  refine lv_iadd hx hb dJx4a65c_grow_d5877_6 ?_
  refine top_i (show (nI L.length) + 1 = nI (L.length + 1) from nI_add L.length 1) ?_
  refine k_callVq (As := [.int (nI (L.length + 1))]) (rest := []) C hml (c_Jx4a65c_grow_92f84_L h hf hA h10 hel hca hMi hDc hAO) (cwV 1 hts gJx4a65c_grow_d5877_Jx4a65c_grow_92f84 rfl rfl rfl (by decide +kernel) ⟨by decide, by decide⟩) hW hS hB (h.1).1 (pAt_12 (h.1).2) rfl rfl hl.1 rfl (Nat.le_of_ble_eq_true rfl) dJx4a65c_grow_d5877_7 ⟨Nat.le_of_ble_eq_true rfl, Nat.le_of_ble_eq_true rfl⟩ (fun r9 S1 H locs hp9 hW hS => ?_)
  obtain ⟨q, qn, e9, hq9⟩ := hp9
  subst e9
  exact k_aret C hr hlk hW hS hB ⟨q, qn, rfl, hq9⟩ (Or.inr ⟨_, rfl⟩) (Nat.le_refl _) (Nat.le_refl _) dJx4a65c_grow_d5877_10
set_option maxRecDepth 100000 in
set_option maxHeartbeats 1000000 in
theorem c_Jx4a65c_add_72be8_r_L {l : Launch} {D : va_G} {cy : Nat → ClassId} {B : Nat} {s0 : State} {S : PS} {dE a ea n x : Nat} {L : List Nat} (h : AL S dE a ea L) (hA : IsAt S 21 ea) (hn : aN S ea = n) (hr0 : L.length < n) (h10 : 10 ≤ n) (h7 : n ≤ 700) (hl0 : L.length < 400) (hx4 : IsAt S 5 x) (hca : va_Nw (.castable "LeaseGates$Loan" "java/lang/Object") s0) : KV l yJx4a65c_add_72be8 wsJx4a65c_add_72be8 ({ frames := 5, cells := 1, slots := 1100, locals := 147 }) D cy B s0 [.ref a, .ref x, .ref ea, .int (nI L.length)] S (fun S2 => ADDP S S2 dE a ea L x) 1 1100 := by
  refine k_body (own := RJx4a65c) (cc := cJx4a65c_add_72be8) (maxL := 4) (ret := none) rfl (by decide) rfl (Nat.le_of_ble_eq_true rfl) ?_
  intro p e s m below meth c C hml hr hlk hnm hB hW ls hl
  obtain ⟨hx, hb, hts, hown, hK, hEn⟩ := id C
  have hS : va_S (Aw B) s.heap s.heap [] := va_S.rf
  have hinJx4a65c : ∀ w ∈ wsJx4a65c0, w ∈ wsJx4a65c_add_72be8 := by decide +kernel
  have l48 : Cond.fieldLink RJx4a65c 48 "java/util/ArrayList" "size" "I" ∈ wsJx4a65c_add_72be8 := by decide +kernel
  have hl : lv_has ls 4 [(0, .ref a), (1, .ref x), (2, .ref ea), (3, .int (nI L.length))] := hl
  refine lv_iload_n hx hb dJx4a65c_add_72be8_0 rfl (lv_at hl 3 rfl) ?_
  refine lv_aload_n hx hb dJx4a65c_add_72be8_1 rfl (lv_at hl 2 rfl) ?_
  refine a_Objectlen (v := nI n) C hW hA (by rw [hn]) dJx4a65c_add_72be8_2 ?_
  refine lv_icmp_ne (tgt := 11) hx hb dJx4a65c_add_72be8_3 (by decide) (fun c_3 => ?_) (fun c_3 => absurd ((nI_eq (by omega) (by omega)).mp c_3) (by omega))
  have q_3 : ¬ (L.length = n) := fun z => c_3 ((nI_eq (a := L.length) (b := n) (by omega) (by omega)).mpr z)
  refine lv_aload_n hx hb dJx4a65c_add_72be8_11 rfl (lv_at hl 2 rfl) ?_
  refine lv_iload_n hx hb dJx4a65c_add_72be8_12 rfl (lv_at hl 3 rfl) ?_
  refine lv_aload_n hx hb dJx4a65c_add_72be8_13 rfl (lv_at hl 1 rfl) ?_
  refine a_Object5store C hW hS (j := L.length) hA hn rfl (by omega) (by omega) hx4 hca dJx4a65c_add_72be8_14 (fun S1 H locs e1 hW hS => ?_)
  subst e1
  refine lv_aload_n hx hb dJx4a65c_add_72be8_15 rfl (lv_at hl 0 rfl) ?_
  refine lv_iload_n hx hb dJx4a65c_add_72be8_16 rfl (lv_at hl 3 rfl) ?_
  refine lv_iconst (v := 1) hx hb dJx4a65c_add_72be8_17 (by decide) ?_
  refine lv_iadd hx hb dJx4a65c_add_72be8_18 ?_
  refine top_i (show (nI L.length) + 1 = nI (L.length + 1) from nI_add L.length 1) ?_
  refine p_1202 C hinJx4a65c hW hS h.1 l48 dJx4a65c_add_72be8_19 (fun S1 H locs e1 hW hS => ?_)
  subst e1
  exact k_vret C hr hlk hW hS hB (add_room h hA hn hr0 h10 h7 hl0) (Nat.zero_le _) (Nat.zero_le _) dJx4a65c_add_72be8_22
set_option maxRecDepth 100000 in
set_option maxHeartbeats 1000000 in
theorem c_Jx4a65c_add_72be8_f_L {l : Launch} {D : va_G} {cy : Nat → ClassId} {B : Nat} {s0 : State} {S : PS} {dE a ea x mi : Nat} {L : List Nat} (h : AL S dE a ea L) (hf : aN S ea = L.length) (hA : IsAt S 21 ea) (h10 : 10 ≤ L.length) (hl0 : L.length < 400) (hx4 : IsAt S 5 x) (hel : ∀ j, j < L.length → ∀ y, aQ S ea j = some y → IsAt S 5 y) (hca : va_Nw (.castable "LeaseGates$Loan" "java/lang/Object") s0) (hMi : va_Mi "[Ljava/lang/Object;" mi s0) (hDc : va_Dc s0) (hAO : va_AO "java/lang/Object" s0) : KV l yJx4a65c_add_72be8 wsJx4a65c_add_72be8 ({ frames := 5, cells := 1, slots := 1100, locals := 147 }) D cy B s0 [.ref a, .ref x, .ref ea, .int (nI L.length)] S (fun S2 => ADDP S S2 dE a ea L x) 1 1100 := by
  refine k_body (own := RJx4a65c) (cc := cJx4a65c_add_72be8) (maxL := 4) (ret := none) rfl (by decide) rfl (Nat.le_of_ble_eq_true rfl) ?_
  intro p e s m below meth c C hml hr hlk hnm hB hW ls hl
  obtain ⟨hx, hb, hts, hown, hK, hEn⟩ := id C
  have hS : va_S (Aw B) s.heap s.heap [] := va_S.rf
  have hinJx4a65c : ∀ w ∈ wsJx4a65c0, w ∈ wsJx4a65c_add_72be8 := by decide +kernel
  have l48 : Cond.fieldLink RJx4a65c 48 "java/util/ArrayList" "size" "I" ∈ wsJx4a65c_add_72be8 := by decide +kernel
  have hl : lv_has ls 4 [(0, .ref a), (1, .ref x), (2, .ref ea), (3, .int (nI L.length))] := hl
  refine lv_iload_n hx hb dJx4a65c_add_72be8_0 rfl (lv_at hl 3 rfl) ?_
  refine lv_aload_n hx hb dJx4a65c_add_72be8_1 rfl (lv_at hl 2 rfl) ?_
  refine a_Objectlen (v := nI L.length) C hW hA (by rw [hf]) dJx4a65c_add_72be8_2 ?_
  refine lv_icmp_ne (tgt := 11) hx hb dJx4a65c_add_72be8_3 (by decide) (fun c_3 => absurd rfl c_3) (fun c_3 => ?_)
  have q_3 : L.length = L.length := (nI_eq (a := L.length) (b := L.length) (by omega) (by omega)).mp c_3
  refine lv_aload_n hx hb dJx4a65c_add_72be8_6 rfl (lv_at hl 0 rfl) ?_
  refine k_callVq (As := []) (rest := []) C hml (c_Jx4a65c_grow_d5877_L h hf hA h10 hel hca hMi hDc hAO) (cwV 0 hts gJx4a65c_add_72be8_Jx4a65c_grow_d5877 rfl rfl rfl (by decide +kernel) ⟨by decide, by decide⟩) hW hS hB (h.1).1 (pAt_12 (h.1).2) rfl rfl hl.1 rfl (Nat.le_of_ble_eq_true rfl) dJx4a65c_add_72be8_7 ⟨Nat.le_of_ble_eq_true rfl, Nat.le_of_ble_eq_true rfl⟩ (fun r9 S1 H locs hp9 hW hS => ?_)
  obtain ⟨q, qn, e9, hq9⟩ := hp9
  subst e9
  subst hq9
  have hk9 : Ext S (sR (cR (nA S q 21 (L.length + L.length / 2)) ea q 0 0 L.length) 1201 a (some q)) := fun k2 b2 g2 => nA_ext (k := 21) (n := L.length + L.length / 2) qn k2 b2 g2
  refine lv_astore_n (lv' := [(2, .ref q), (0, .ref a), (1, .ref x), (3, .int (nI L.length))]) hx hb dJx4a65c_add_72be8_10 rfl hl (by decide) rfl (fun ls hl => ?_)
  refine lv_aload_n hx hb dJx4a65c_add_72be8_11 rfl (lv_at hl 0 rfl) ?_
  refine lv_iload_n hx hb dJx4a65c_add_72be8_12 rfl (lv_at hl 3 rfl) ?_
  refine lv_aload_n hx hb dJx4a65c_add_72be8_13 rfl (lv_at hl 2 rfl) ?_
  refine a_Object5store C hW hS (j := L.length) (nA_is (S := S) (n := L.length + L.length / 2)) (nA_aN (S := S) (k := 21) (n := L.length + L.length / 2)) rfl (by omega) (by omega) (hk9 _ _ hx4) hca dJx4a65c_add_72be8_14 (fun S1 H locs e1 hW hS => ?_)
  subst e1
  refine lv_aload_n hx hb dJx4a65c_add_72be8_15 rfl (lv_at hl 1 rfl) ?_
  refine lv_iload_n hx hb dJx4a65c_add_72be8_16 rfl (lv_at hl 3 rfl) ?_
  refine lv_iconst (v := 1) hx hb dJx4a65c_add_72be8_17 (by decide) ?_
  refine lv_iadd hx hb dJx4a65c_add_72be8_18 ?_
  refine top_i (show (nI L.length) + 1 = nI (L.length + 1) from nI_add L.length 1) ?_
  refine p_1202 C hinJx4a65c hW hS (hk9 _ _ h.1) l48 dJx4a65c_add_72be8_19 (fun S1 H locs e1 hW hS => ?_)
  subst e1
  exact k_vret C hr hlk hW hS hB (add_full h hA hf h10 hl0 rfl qn) (Nat.le_refl _) (Nat.le_refl _) dJx4a65c_add_72be8_22
set_option maxRecDepth 100000 in
set_option maxHeartbeats 1000000 in
theorem c_Jx4a65c_add_72be8_e_L {l : Launch} {D : va_G} {cy : Nat → ClassId} {B : Nat} {s0 : State} {S : PS} {dE a x mi : Nat} (hd : Sd dE B s0) (h : AL S dE a dE []) (hx4 : IsAt S 5 x) (hca : va_Nw (.castable "LeaseGates$Loan" "java/lang/Object") s0) (hMi : va_Mi "[Ljava/lang/Object;" mi s0) (hDc : va_Dc s0) (hAO : va_AO "java/lang/Object" s0) : KV l yJx4a65c_add_72be8 wsJx4a65c_add_72be8 ({ frames := 5, cells := 1, slots := 1100, locals := 147 }) D cy B s0 [.ref a, .ref x, .ref dE, .int (nI 0)] S (fun S2 => ADDP S S2 dE a dE [] x) 1 1100 := by
  refine k_body (own := RJx4a65c) (cc := cJx4a65c_add_72be8) (maxL := 4) (ret := none) rfl (by decide) rfl (Nat.le_of_ble_eq_true rfl) ?_
  intro p e s m below meth c C hml hr hlk hnm hB hW ls hl
  obtain ⟨hx, hb, hts, hown, hK, hEn⟩ := id C
  have hS : va_S (Aw B) s.heap s.heap [] := va_S.rf
  have hinJx4a65c : ∀ w ∈ wsJx4a65c0, w ∈ wsJx4a65c_add_72be8 := by decide +kernel
  have l48 : Cond.fieldLink RJx4a65c 48 "java/util/ArrayList" "size" "I" ∈ wsJx4a65c_add_72be8 := by decide +kernel
  have hl : lv_has ls 4 [(0, .ref a), (1, .ref x), (2, .ref dE), (3, .int (nI 0))] := hl
  refine lv_iload_n hx hb dJx4a65c_add_72be8_0 rfl (lv_at hl 3 rfl) ?_
  refine lv_aload_n hx hb dJx4a65c_add_72be8_1 rfl (lv_at hl 2 rfl) ?_
  refine k_dElen C hS hd dJx4a65c_add_72be8_2 ?_
  refine lv_icmp_ne (tgt := 11) hx hb dJx4a65c_add_72be8_3 (by decide) (fun c_3 => absurd rfl c_3) (fun c_3 => ?_)
  have q_3 : 0 = 0 := (nI_eq (a := 0) (b := 0) (by omega) (by omega)).mp c_3
  refine lv_aload_n hx hb dJx4a65c_add_72be8_6 rfl (lv_at hl 0 rfl) ?_
  refine k_callVq (As := []) (rest := []) C hml (c_Jx4a65c_grow_d5877_0 hd h hMi hDc hAO) (cwV 0 hts gJx4a65c_add_72be8_Jx4a65c_grow_d5877 rfl rfl rfl (by decide +kernel) ⟨by decide, by decide⟩) hW hS hB (h.1).1 (pAt_12 (h.1).2) rfl rfl hl.1 rfl (Nat.le_of_ble_eq_true rfl) dJx4a65c_add_72be8_7 ⟨Nat.le_of_ble_eq_true rfl, Nat.le_of_ble_eq_true rfl⟩ (fun r9 S1 H locs hp9 hW hS => ?_)
  obtain ⟨q, qn, e9, hq9⟩ := hp9
  subst e9
  subst hq9
  have hk9 : Ext S (sR (nA S q 21 10) 1201 a (some q)) := fun k2 b2 g2 => nA_ext (k := 21) (n := 10) qn k2 b2 g2
  refine lv_astore_n (lv' := [(2, .ref q), (0, .ref a), (1, .ref x), (3, .int (nI 0))]) hx hb dJx4a65c_add_72be8_10 rfl hl (by decide) rfl (fun ls hl => ?_)
  refine lv_aload_n hx hb dJx4a65c_add_72be8_11 rfl (lv_at hl 0 rfl) ?_
  refine lv_iload_n hx hb dJx4a65c_add_72be8_12 rfl (lv_at hl 3 rfl) ?_
  refine lv_aload_n hx hb dJx4a65c_add_72be8_13 rfl (lv_at hl 2 rfl) ?_
  refine a_Object5store C hW hS (j := 0) (nA_is (S := S) (n := 10)) (nA_aN (S := S) (k := 21) (n := 10)) rfl (by omega) (by omega) (hk9 _ _ hx4) hca dJx4a65c_add_72be8_14 (fun S1 H locs e1 hW hS => ?_)
  subst e1
  refine lv_aload_n hx hb dJx4a65c_add_72be8_15 rfl (lv_at hl 1 rfl) ?_
  refine lv_iload_n hx hb dJx4a65c_add_72be8_16 rfl (lv_at hl 3 rfl) ?_
  refine lv_iconst (v := 1) hx hb dJx4a65c_add_72be8_17 (by decide) ?_
  refine lv_iadd hx hb dJx4a65c_add_72be8_18 ?_
  refine top_i (show (nI 0) + 1 = nI (0 + 1) from nI_add 0 1) ?_
  refine top_i (show nI (0 + 1) = nI 1 from rfl) ?_
  refine p_1202 C hinJx4a65c hW hS (hk9 _ _ h.1) l48 dJx4a65c_add_72be8_19 (fun S1 H locs e1 hW hS => ?_)
  subst e1
  exact k_vret C hr hlk hW hS hB (add_empty h qn) (Nat.le_refl _) (Nat.le_refl _) dJx4a65c_add_72be8_22
theorem c_Jx4a65c_add_72be8_L {l : Launch} {D : va_G} {cy : Nat → ClassId} {B : Nat} {s0 : State} {S : PS} {dE a ea x mi : Nat} {L : List Nat} (hd : Sd dE B s0) (h : AL S dE a ea L) (hl0 : L.length < 400) (hx4 : IsAt S 5 x) (hel : ∀ j, j < L.length → ∀ y, aQ S ea j = some y → IsAt S 5 y) (hca : va_Nw (.castable "LeaseGates$Loan" "java/lang/Object") s0) (hMi : va_Mi "[Ljava/lang/Object;" mi s0) (hDc : va_Dc s0) (hAO : va_AO "java/lang/Object" s0) : KV l yJx4a65c_add_72be8 wsJx4a65c_add_72be8 ({ frames := 5, cells := 1, slots := 1100, locals := 147 }) D cy B s0 [.ref a, .ref x, .ref ea, .int (nI L.length)] S (fun S2 => ADDP S S2 dE a ea L x) 1 1100 := by
  rcases h.2.2.2.2 with ⟨z1, z2⟩ | ⟨z1, z2, z3, z4, z5⟩
  · subst z1; subst z2
    exact c_Jx4a65c_add_72be8_e_L hd h hx4 hca hMi hDc hAO
  · by_cases z : L.length = aN S ea
    · exact c_Jx4a65c_add_72be8_f_L h z.symm z1 (by omega) hl0 hx4 hel hca hMi hDc hAO
    · exact c_Jx4a65c_add_72be8_r_L h z1 rfl (by omega) z2 z3 hl0 hx4 hca
set_option maxRecDepth 100000 in
set_option maxHeartbeats 1000000 in
theorem c_Jx4a65c_add_9ea2d_L {l : Launch} {D : va_G} {cy : Nat → ClassId} {B : Nat} {s0 : State} {S : PS} {dE a ea x mi : Nat} {L : List Nat} (hd : Sd dE B s0) (h : AL S dE a ea L) (hl0 : L.length < 400) (hx4 : IsAt S 5 x) (hel : ∀ j, j < L.length → ∀ y, aQ S ea j = some y → IsAt S 5 y) (hca : va_Nw (.castable "LeaseGates$Loan" "java/lang/Object") s0) (hMi : va_Mi "[Ljava/lang/Object;" mi s0) (hDc : va_Dc s0) (hAO : va_AO "java/lang/Object" s0) : KI l yJx4a65c_add_9ea2d wsJx4a65c_add_9ea2d ({ frames := 6, cells := 1, slots := 1100, locals := 170 }) D cy B s0 [.ref a, .ref x] S (fun r S2 => ADDP S S2 dE a ea L x ∧ r = 1) 1 1100 := by
  refine k_body (own := RJx4a65c) (cc := cJx4a65c_add_9ea2d) (maxL := 2) (ret := (some .boolean)) rfl (by decide) rfl (Nat.le_of_ble_eq_true rfl) ?_
  intro p e s m below meth c C hml hr hlk hnm hB hW ls hl
  obtain ⟨hx, hb, hts, hown, hK, hEn⟩ := id C
  have hS : va_S (Aw B) s.heap s.heap [] := va_S.rf
  have hinJx4a65c : ∀ w ∈ wsJx4a65c0, w ∈ wsJx4a65c_add_9ea2d := by decide +kernel
  have l9 : Cond.fieldLink RJx4a65c 9 "java/util/ArrayList" "elementData" "[Ljava/lang/Object;" ∈ wsJx4a65c_add_9ea2d := by decide +kernel
  have l48 : Cond.fieldLink RJx4a65c 48 "java/util/ArrayList" "size" "I" ∈ wsJx4a65c_add_9ea2d := by decide +kernel
  have l63 : Cond.fieldLink RJx4a65c 63 "java/util/ArrayList" "modCount" "I" ∈ wsJx4a65c_add_9ea2d := by decide +kernel
  have hl : lv_has ls 2 [(0, .ref a), (1, .ref x)] := hl
  have lsm : Cond.sameField "java/util/ArrayList" "java/util/AbstractList" "modCount" "I" ∈ wsJx4a65c_add_9ea2d := by decide +kernel
  refine lv_aload_n hx hb dJx4a65c_add_9ea2d_0 rfl (lv_at hl 0 rfl) ?_
  refine lv_dup hx hb dJx4a65c_add_9ea2d_1 rfl ?_
  refine g_1200 C hinJx4a65c hW h.1 l63 lsm dJx4a65c_add_9ea2d_2 ?_
  refine lv_iconst (v := 1) hx hb dJx4a65c_add_9ea2d_5 (by decide) ?_
  refine lv_iadd hx hb dJx4a65c_add_9ea2d_6 ?_
  refine p_1200 C hinJx4a65c hW hS h.1 l63 lsm dJx4a65c_add_9ea2d_7 (fun S1 H locs e1 hW hS => ?_)
  subst e1
  refine lv_aload_n hx hb dJx4a65c_add_9ea2d_10 rfl (lv_at hl 0 rfl) ?_
  refine lv_aload_n hx hb dJx4a65c_add_9ea2d_11 rfl (lv_at hl 1 rfl) ?_
  refine lv_aload_n hx hb dJx4a65c_add_9ea2d_12 rfl (lv_at hl 0 rfl) ?_
  refine g_1201 C hinJx4a65c hW h.1 h.2.1 l9 dJx4a65c_add_9ea2d_13 ?_
  refine lv_aload_n hx hb dJx4a65c_add_9ea2d_16 rfl (lv_at hl 0 rfl) ?_
  refine g_1202 C hinJx4a65c hW h.1 l48 dJx4a65c_add_9ea2d_17 ?_
  refine top_i (show fI (sI S 1200 a ((fI S 1200 a) + 1)) 1202 a = nI L.length from ((sI_f (by decide)).trans h.2.2.1)) ?_
  refine k_callVv (As := [.ref x, .ref ea, .int (nI L.length)]) (rest := []) C hml (c_Jx4a65c_add_72be8_L hd h.mod hl0 hx4 hel hca hMi hDc hAO) (cwV 3 hts gJx4a65c_add_9ea2d_Jx4a65c_add_72be8 rfl rfl rfl (by decide +kernel) ⟨by decide, by decide⟩) hW hS hB (h.1).1 (pAt_12 (h.1).2) rfl rfl hl.1 rfl (Nat.le_of_ble_eq_true rfl) dJx4a65c_add_9ea2d_20 ⟨Nat.le_of_ble_eq_true rfl, Nat.le_of_ble_eq_true rfl⟩ (fun S1 H locs hp9 hW hS => ?_)
  refine lv_iconst (v := 1) hx hb dJx4a65c_add_9ea2d_23 (by decide) ?_
  exact k_zret C hr hlk hW hS hB ⟨hp9.mod, rfl⟩ (by decide) (Nat.le_refl _) (Nat.le_refl _) dJx4a65c_add_9ea2d_24
