set_option maxRecDepth 100000 in
set_option maxHeartbeats 1000000 in
theorem c_X9_now {l : Launch} {D : va_G} {cy : Nat → ClassId} {B : Nat} {s0 : State} {S : PS} {a : Nat} (h : IsAt S 9 a) : KI l yX9_now wsX9_now ({ frames := 0, cells := 0, slots := 0, locals := 0 }) D cy B s0 [.ref a] S (fun r S2 => S2 = S ∧ r = (fJ S 900 a / 1000).toInt32) 0 0 := by
  refine k_body (own := RX9) (cc := cX9_now) (maxL := 1) (ret := (some .int)) rfl (by decide) rfl (Nat.le_of_ble_eq_true rfl) ?_
  intro p e s m below meth c C hml hr hlk hnm hB hW ls hl
  obtain ⟨hx, hb, hts, hown, hK, hEn⟩ := id C
  have hS : va_S (Aw B) s.heap s.heap [] := va_S.rf
  have hinX9 : ∀ w ∈ wsX90, w ∈ wsX9_now := by decide +kernel
  have l13 : Cond.fieldLink RX9 13 "LeaseGates$Ticker" "thousandths" "J" ∈ wsX9_now := by decide +kernel
  have l17 : Cond.constantLong RX9 17 (1000) ∈ wsX9_now := by decide +kernel
  have hl : lv_has ls 1 [(0, .ref a)] := hl
  refine lv_aload_n hx hb dX9_now_0 rfl (lv_at hl 0 rfl) ?_
  refine g_900 C hinX9 hW h l13 dX9_now_1 ?_
  refine lv_ldc2 hx hb hown (hts _ l17) dX9_now_4 ?_
  refine lv_ldiv hx hb dX9_now_7 (by decide) ?_
  refine lv_l2i (v := ((fJ S 900 a) / 1000).toInt32) hx hb dX9_now_8 rfl ?_
  exact k_iret C hr hlk hW hS hB ⟨rfl, rfl⟩ (Nat.le_refl _) (Nat.le_refl _) dX9_now_9
set_option maxRecDepth 100000 in
set_option maxHeartbeats 1000000 in
theorem c_X9_advance {l : Launch} {D : va_G} {cy : Nat → ClassId} {B : Nat} {s0 : State} {S : PS} {a : Nat} {x : Int32} (h : IsAt S 9 a) : KV l yX9_advance wsX9_advance ({ frames := 0, cells := 0, slots := 0, locals := 0 }) D cy B s0 [.ref a, .int x] S (fun S2 => S2 = sJ S 900 a (fJ S 900 a + x.toInt64 * (fI S 901 a).toInt64)) 0 0 := by
  refine k_body (own := RX9) (cc := cX9_advance) (maxL := 2) (ret := none) rfl (by decide) rfl (Nat.le_of_ble_eq_true rfl) ?_
  intro p e s m below meth c C hml hr hlk hnm hB hW ls hl
  obtain ⟨hx, hb, hts, hown, hK, hEn⟩ := id C
  have hS : va_S (Aw B) s.heap s.heap [] := va_S.rf
  have hinX9 : ∀ w ∈ wsX90, w ∈ wsX9_advance := by decide +kernel
  have l7 : Cond.fieldLink RX9 7 "LeaseGates$Ticker" "pace" "I" ∈ wsX9_advance := by decide +kernel
  have l13 : Cond.fieldLink RX9 13 "LeaseGates$Ticker" "thousandths" "J" ∈ wsX9_advance := by decide +kernel
  have hl : lv_has ls 2 [(0, .ref a), (1, .int x)] := hl
  refine lv_aload_n hx hb dX9_advance_0 rfl (lv_at hl 0 rfl) ?_
  refine lv_dup hx hb dX9_advance_1 rfl ?_
  refine g_900 C hinX9 hW h l13 dX9_advance_2 ?_
  refine lv_iload_n hx hb dX9_advance_5 rfl (lv_at hl 1 rfl) ?_
  refine lv_i2l (v := x.toInt64) hx hb dX9_advance_6 rfl ?_
  refine lv_aload_n hx hb dX9_advance_7 rfl (lv_at hl 0 rfl) ?_
  refine g_901 C hinX9 hW h l7 dX9_advance_8 ?_
  refine lv_i2l (v := (fI S 901 a).toInt64) hx hb dX9_advance_11 rfl ?_
  refine lv_lmul hx hb dX9_advance_12 ?_
  refine lv_ladd hx hb dX9_advance_13 ?_
  refine p_900 C hinX9 hW hS h l13 dX9_advance_14 (fun S1 H locs e1 hW hS => ?_)
  subst e1
  exact k_vret C hr hlk hW hS hB rfl (Nat.le_refl _) (Nat.le_refl _) dX9_advance_17
set_option maxRecDepth 100000 in
set_option maxHeartbeats 1000000 in
theorem c_X4_isLive {l : Launch} {D : va_G} {cy : Nat → ClassId} {B : Nat} {s0 : State} {S : PS} {a : Nat} {x : Int32} (h : IsAt S 4 a) : KI l yX4_isLive wsX4_isLive ({ frames := 0, cells := 0, slots := 0, locals := 0 }) D cy B s0 [.ref a, .int x] S (fun r S2 => S2 = S ∧ r = (if x - fI S 401 a < fI S 402 a then 1 else 0)) 0 0 := by
  refine k_body (own := RX4) (cc := cX4_isLive) (maxL := 2) (ret := (some .boolean)) rfl (by decide) rfl (Nat.le_of_ble_eq_true rfl) ?_
  intro p e s m below meth c C hml hr hlk hnm hB hW ls hl
  obtain ⟨hx, hb, hts, hown, hK, hEn⟩ := id C
  have hS : va_S (Aw B) s.heap s.heap [] := va_S.rf
  have hinX4 : ∀ w ∈ wsX40, w ∈ wsX4_isLive := by decide +kernel
  have l16 : Cond.fieldLink RX4 16 "LeaseGates$Hold" "asked" "I" ∈ wsX4_isLive := by decide +kernel
  have l22 : Cond.fieldLink RX4 22 "LeaseGates$Hold" "span" "I" ∈ wsX4_isLive := by decide +kernel
  have hl : lv_has ls 2 [(0, .ref a), (1, .int x)] := hl
  refine lv_iload_n hx hb dX4_isLive_0 rfl (lv_at hl 1 rfl) ?_
  refine lv_aload_n hx hb dX4_isLive_1 rfl (lv_at hl 0 rfl) ?_
  refine g_401 C hinX4 hW h l16 dX4_isLive_2 ?_
  refine lv_isub hx hb dX4_isLive_5 ?_
  refine lv_aload_n hx hb dX4_isLive_6 rfl (lv_at hl 0 rfl) ?_
  refine g_402 C hinX4 hW h l22 dX4_isLive_7 ?_
  refine lv_icmp_ge (tgt := 17) hx hb dX4_isLive_10 (by decide) (fun c_10 => ?_) (fun c_10 => ?_)
  · refine lv_iconst (v := 0) hx hb dX4_isLive_17 (by decide) ?_
    exact k_zret C hr hlk hW hS hB ⟨rfl, (if_neg (Int32.not_lt.mpr c_10)).symm⟩ (by decide) (Nat.le_refl _) (Nat.le_refl _) dX4_isLive_18
  · refine lv_iconst (v := 1) hx hb dX4_isLive_13 (by decide) ?_
    refine lv_goto (tgt := 18) hx hb dX4_isLive_14 (by decide) ?_
    exact k_zret C hr hlk hW hS hB ⟨rfl, (if_pos (Int32.not_le.mp c_10)).symm⟩ (by decide) (Nat.le_refl _) (Nat.le_refl _) dX4_isLive_18
set_option maxRecDepth 100000 in
set_option maxHeartbeats 1000000 in
theorem c_X4_isHalfOver {l : Launch} {D : va_G} {cy : Nat → ClassId} {B : Nat} {s0 : State} {S : PS} {a : Nat} {x : Int32} (h : IsAt S 4 a) : KI l yX4_isHalfOver wsX4_isHalfOver ({ frames := 0, cells := 0, slots := 0, locals := 0 }) D cy B s0 [.ref a, .int x] S (fun r S2 => S2 = S ∧ r = (if fI S 402 a ≤ 2 * (x - fI S 401 a) then 1 else 0)) 0 0 := by
  refine k_body (own := RX4) (cc := cX4_isHalfOver) (maxL := 2) (ret := (some .boolean)) rfl (by decide) rfl (Nat.le_of_ble_eq_true rfl) ?_
  intro p e s m below meth c C hml hr hlk hnm hB hW ls hl
  obtain ⟨hx, hb, hts, hown, hK, hEn⟩ := id C
  have hS : va_S (Aw B) s.heap s.heap [] := va_S.rf
  have hinX4 : ∀ w ∈ wsX40, w ∈ wsX4_isHalfOver := by decide +kernel
  have l16 : Cond.fieldLink RX4 16 "LeaseGates$Hold" "asked" "I" ∈ wsX4_isHalfOver := by decide +kernel
  have l22 : Cond.fieldLink RX4 22 "LeaseGates$Hold" "span" "I" ∈ wsX4_isHalfOver := by decide +kernel
  have hl : lv_has ls 2 [(0, .ref a), (1, .int x)] := hl
  refine lv_iconst (v := 2) hx hb dX4_isHalfOver_0 (by decide) ?_
  refine lv_iload_n hx hb dX4_isHalfOver_1 rfl (lv_at hl 1 rfl) ?_
  refine lv_aload_n hx hb dX4_isHalfOver_2 rfl (lv_at hl 0 rfl) ?_
  refine g_401 C hinX4 hW h l16 dX4_isHalfOver_3 ?_
  refine lv_isub hx hb dX4_isHalfOver_6 ?_
  refine lv_imul hx hb dX4_isHalfOver_7 ?_
  refine lv_aload_n hx hb dX4_isHalfOver_8 rfl (lv_at hl 0 rfl) ?_
  refine g_402 C hinX4 hW h l22 dX4_isHalfOver_9 ?_
  refine lv_icmp_lt (tgt := 19) hx hb dX4_isHalfOver_12 (by decide) (fun c_12 => ?_) (fun c_12 => ?_)
  · refine lv_iconst (v := 0) hx hb dX4_isHalfOver_19 (by decide) ?_
    exact k_zret C hr hlk hW hS hB ⟨rfl, (if_neg (Int32.not_le.mpr c_12)).symm⟩ (by decide) (Nat.le_refl _) (Nat.le_refl _) dX4_isHalfOver_20
  · refine lv_iconst (v := 1) hx hb dX4_isHalfOver_15 (by decide) ?_
    refine lv_goto (tgt := 20) hx hb dX4_isHalfOver_16 (by decide) ?_
    exact k_zret C hr hlk hW hS hB ⟨rfl, (if_pos (Int32.not_lt.mp c_12)).symm⟩ (by decide) (Nat.le_refl _) (Nat.le_refl _) dX4_isHalfOver_20
set_option maxRecDepth 100000 in
set_option maxHeartbeats 1000000 in
theorem c_X4_end {l : Launch} {D : va_G} {cy : Nat → ClassId} {B : Nat} {s0 : State} {S : PS} {a : Nat} (h : IsAt S 4 a) : KI l yX4_end wsX4_end ({ frames := 0, cells := 0, slots := 0, locals := 0 }) D cy B s0 [.ref a] S (fun r S2 => S2 = S ∧ r = fI S 401 a + fI S 402 a) 0 0 := by
  refine k_body (own := RX4) (cc := cX4_end) (maxL := 1) (ret := (some .int)) rfl (by decide) rfl (Nat.le_of_ble_eq_true rfl) ?_
  intro p e s m below meth c C hml hr hlk hnm hB hW ls hl
  obtain ⟨hx, hb, hts, hown, hK, hEn⟩ := id C
  have hS : va_S (Aw B) s.heap s.heap [] := va_S.rf
  have hinX4 : ∀ w ∈ wsX40, w ∈ wsX4_end := by decide +kernel
  have l16 : Cond.fieldLink RX4 16 "LeaseGates$Hold" "asked" "I" ∈ wsX4_end := by decide +kernel
  have l22 : Cond.fieldLink RX4 22 "LeaseGates$Hold" "span" "I" ∈ wsX4_end := by decide +kernel
  have hl : lv_has ls 1 [(0, .ref a)] := hl
  refine lv_aload_n hx hb dX4_end_0 rfl (lv_at hl 0 rfl) ?_
  refine g_401 C hinX4 hW h l16 dX4_end_1 ?_
  refine lv_aload_n hx hb dX4_end_4 rfl (lv_at hl 0 rfl) ?_
  refine g_402 C hinX4 hW h l22 dX4_end_5 ?_
  refine lv_iadd hx hb dX4_end_8 ?_
  exact k_iret C hr hlk hW hS hB ⟨rfl, rfl⟩ (Nat.le_refl _) (Nat.le_refl _) dX4_end_9
set_option maxRecDepth 100000 in
set_option maxHeartbeats 1000000 in
theorem c_X0_askedOfLate {l : Launch} {D : va_G} {cy : Nat → ClassId} {B : Nat} {s0 : State} {S : PS} {a : Nat} {x : Int32} (h : IsAt S 0 a) : KI l yX0_askedOfLate wsX0_askedOfLate ({ frames := 0, cells := 0, slots := 0, locals := 0 }) D cy B s0 [.ref a, .int x] S (fun r S2 => S2 = S ∧ r = (if ¬ fI S 1 a = 0 ∧ x - fI S 2 a < 1000 then 1 else 0)) 0 0 := by
  refine k_body (own := RX0) (cc := cX0_askedOfLate) (maxL := 2) (ret := (some .boolean)) rfl (by decide) rfl (Nat.le_of_ble_eq_true rfl) ?_
  intro p e s m below meth c C hml hr hlk hnm hB hW ls hl
  obtain ⟨hx, hb, hts, hown, hK, hEn⟩ := id C
  have hS : va_S (Aw B) s.heap s.heap [] := va_S.rf
  have hinX0 : ∀ w ∈ wsX00, w ∈ wsX0_askedOfLate := by decide +kernel
  have l13 : Cond.fieldLink RX0 13 "LeaseGates$Account" "asked" "Z" ∈ wsX0_askedOfLate := by decide +kernel
  have l17 : Cond.fieldLink RX0 17 "LeaseGates$Account" "askedAt" "I" ∈ wsX0_askedOfLate := by decide +kernel
  have hl : lv_has ls 2 [(0, .ref a), (1, .int x)] := hl
  refine lv_aload_n hx hb dX0_askedOfLate_0 rfl (lv_at hl 0 rfl) ?_
  refine g_1 C hinX0 hW h l13 dX0_askedOfLate_1 ?_
  refine lv_if_eq (tgt := 23) hx hb dX0_askedOfLate_4 (by decide) (fun c_4 => ?_) (fun c_4 => ?_)
  · refine lv_iconst (v := 0) hx hb dX0_askedOfLate_23 (by decide) ?_
    exact k_zret C hr hlk hW hS hB ⟨rfl, (if_neg (fun z => z.1 c_4)).symm⟩ (by decide) (Nat.le_refl _) (Nat.le_refl _) dX0_askedOfLate_24
  · refine lv_iload_n hx hb dX0_askedOfLate_7 rfl (lv_at hl 1 rfl) ?_
    refine lv_aload_n hx hb dX0_askedOfLate_8 rfl (lv_at hl 0 rfl) ?_
    refine g_2 C hinX0 hW h l17 dX0_askedOfLate_9 ?_
    refine lv_isub hx hb dX0_askedOfLate_12 ?_
    refine lv_sipush (v := 1000) hx hb dX0_askedOfLate_13 (by decide) ?_
    refine lv_icmp_ge (tgt := 23) hx hb dX0_askedOfLate_16 (by decide) (fun c_16 => ?_) (fun c_16 => ?_)
    · refine lv_iconst (v := 0) hx hb dX0_askedOfLate_23 (by decide) ?_
      exact k_zret C hr hlk hW hS hB ⟨rfl, (if_neg (fun z => absurd z.2 (Int32.not_lt.mpr c_16))).symm⟩ (by decide) (Nat.le_refl _) (Nat.le_refl _) dX0_askedOfLate_24
    · refine lv_iconst (v := 1) hx hb dX0_askedOfLate_19 (by decide) ?_
      refine lv_goto (tgt := 24) hx hb dX0_askedOfLate_20 (by decide) ?_
      exact k_zret C hr hlk hW hS hB ⟨rfl, (if_pos ⟨c_4, Int32.not_le.mp c_16⟩).symm⟩ (by decide) (Nat.le_refl _) (Nat.le_refl _) dX0_askedOfLate_24
set_option maxRecDepth 100000 in
set_option maxHeartbeats 1000000 in
theorem c_X1_free {l : Launch} {D : va_G} {cy : Nat → ClassId} {B : Nat} {s0 : State} {S : PS} {a : Nat} (h : IsAt S 1 a) : KI l yX1_free wsX1_free ({ frames := 0, cells := 0, slots := 0, locals := 0 }) D cy B s0 [.ref a] S (fun r S2 => S2 = S ∧ r = fI S 103 a / 1000) 0 0 := by
  refine k_body (own := RX1) (cc := cX1_free) (maxL := 1) (ret := (some .int)) rfl (by decide) rfl (Nat.le_of_ble_eq_true rfl) ?_
  intro p e s m below meth c C hml hr hlk hnm hB hW ls hl
  obtain ⟨hx, hb, hts, hown, hK, hEn⟩ := id C
  have hS : va_S (Aw B) s.heap s.heap [] := va_S.rf
  have hinX1 : ∀ w ∈ wsX10, w ∈ wsX1_free := by decide +kernel
  have l40 : Cond.fieldLink RX1 40 "LeaseGates$Bucket" "level" "I" ∈ wsX1_free := by decide +kernel
  have hl : lv_has ls 1 [(0, .ref a)] := hl
  refine lv_aload_n hx hb dX1_free_0 rfl (lv_at hl 0 rfl) ?_
  refine g_103 C hinX1 hW h l40 dX1_free_1 ?_
  refine lv_sipush (v := 1000) hx hb dX1_free_4 (by decide) ?_
  refine lv_idiv hx hb dX1_free_7 (by decide) ?_
  exact k_iret C hr hlk hW hS hB ⟨rfl, rfl⟩ (Nat.le_refl _) (Nat.le_refl _) dX1_free_8
set_option maxRecDepth 100000 in
set_option maxHeartbeats 1000000 in
theorem c_X2_mayAsk {l : Launch} {D : va_G} {cy : Nat → ClassId} {B : Nat} {s0 : State} {S : PS} {a : Nat} {x : Int32} (h : IsAt S 2 a) : KI l yX2_mayAsk wsX2_mayAsk ({ frames := 0, cells := 0, slots := 0, locals := 0 }) D cy B s0 [.ref a, .int x] S (fun r S2 => S2 = S ∧ r = (if fI S 206 a = 0 ∨ 500 ≤ x - fI S 207 a then 1 else 0)) 0 0 := by
  refine k_body (own := RX2) (cc := cX2_mayAsk) (maxL := 2) (ret := (some .boolean)) rfl (by decide) rfl (Nat.le_of_ble_eq_true rfl) ?_
  intro p e s m below meth c C hml hr hlk hnm hB hW ls hl
  obtain ⟨hx, hb, hts, hown, hK, hEn⟩ := id C
  have hS : va_S (Aw B) s.heap s.heap [] := va_S.rf
  have hinX2 : ∀ w ∈ wsX20, w ∈ wsX2_mayAsk := by decide +kernel
  have l37 : Cond.fieldLink RX2 37 "LeaseGates$Desk" "open" "Z" ∈ wsX2_mayAsk := by decide +kernel
  have l41 : Cond.fieldLink RX2 41 "LeaseGates$Desk" "openSince" "I" ∈ wsX2_mayAsk := by decide +kernel
  have hl : lv_has ls 2 [(0, .ref a), (1, .int x)] := hl
  refine lv_aload_n hx hb dX2_mayAsk_0 rfl (lv_at hl 0 rfl) ?_
  refine g_206 C hinX2 hW h l37 dX2_mayAsk_1 ?_
  refine lv_if_eq (tgt := 19) hx hb dX2_mayAsk_4 (by decide) (fun c_4 => ?_) (fun c_4 => ?_)
  · refine lv_iconst (v := 1) hx hb dX2_mayAsk_19 (by decide) ?_
    refine lv_goto (tgt := 24) hx hb dX2_mayAsk_20 (by decide) ?_
    exact k_zret C hr hlk hW hS hB ⟨rfl, (if_pos (Or.inl c_4)).symm⟩ (by decide) (Nat.le_refl _) (Nat.le_refl _) dX2_mayAsk_24
  · refine lv_iload_n hx hb dX2_mayAsk_7 rfl (lv_at hl 1 rfl) ?_
    refine lv_aload_n hx hb dX2_mayAsk_8 rfl (lv_at hl 0 rfl) ?_
    refine g_207 C hinX2 hW h l41 dX2_mayAsk_9 ?_
    refine lv_isub hx hb dX2_mayAsk_12 ?_
    refine lv_sipush (v := 500) hx hb dX2_mayAsk_13 (by decide) ?_
    refine lv_icmp_lt (tgt := 23) hx hb dX2_mayAsk_16 (by decide) (fun c_16 => ?_) (fun c_16 => ?_)
    · refine lv_iconst (v := 0) hx hb dX2_mayAsk_23 (by decide) ?_
      exact k_zret C hr hlk hW hS hB ⟨rfl, (if_neg (fun z => z.elim (fun y => c_4 y) (fun y => absurd c_16 (Int32.not_lt.mpr y)))).symm⟩ (by decide) (Nat.le_refl _) (Nat.le_refl _) dX2_mayAsk_24
    · refine lv_iconst (v := 1) hx hb dX2_mayAsk_19 (by decide) ?_
      refine lv_goto (tgt := 24) hx hb dX2_mayAsk_20 (by decide) ?_
      exact k_zret C hr hlk hW hS hB ⟨rfl, (if_pos (Or.inr (Int32.not_lt.mp c_16))).symm⟩ (by decide) (Nat.le_refl _) (Nat.le_refl _) dX2_mayAsk_24
set_option maxRecDepth 100000 in
set_option maxHeartbeats 1000000 in
theorem c_X0_init {l : Launch} {D : va_G} {cy : Nat → ClassId} {B : Nat} {s0 : State} {S : PS} {a : Nat} (h : IsAt S 0 a) : KV l yX0_init wsX0_init ({ frames := 1, cells := 0, slots := 0, locals := 12 }) D cy B s0 [.ref a] S (fun S2 => S2 = sI S 0 a 1) 0 0 := by
  refine k_body (own := RX0) (cc := cX0_init) (maxL := 1) (ret := none) rfl (by decide) rfl (Nat.le_of_ble_eq_true rfl) ?_
  intro p e s m below meth c C hml hr hlk hnm hB hW ls hl
  obtain ⟨hx, hb, hts, hown, hK, hEn⟩ := id C
  have hS : va_S (Aw B) s.heap s.heap [] := va_S.rf
  have hinX0 : ∀ w ∈ wsX00, w ∈ wsX0_init := by decide +kernel
  have l7 : Cond.fieldLink RX0 7 "LeaseGates$Account" "share" "I" ∈ wsX0_init := by decide +kernel
  have hl : lv_has ls 1 [(0, .ref a)] := hl
  refine lv_aload_n hx hb dX0_init_0 rfl (lv_at hl 0 rfl) ?_
  refine W.objInit hx hb hown (hts (.methodLink RX0 1 objectInit) (by decide +kernel)) (hts (.instanceMethod objectInit) (by decide +kernel)) (hts _ (List.mem_of_getElem? (l := wsX0_init) (i := 3) rfl)) rfl (by rw [hml]; exact hl.1) rfl dX0_init_1 (Nat.le_of_ble_eq_true rfl) (Nat.le_of_ble_eq_true rfl) ?_
  refine W.eq (g2 := F0 m 4 ls []) rfl ?_
  refine lv_aload_n hx hb dX0_init_4 rfl (lv_at hl 0 rfl) ?_
  refine lv_iconst (v := 1) hx hb dX0_init_5 (by decide) ?_
  refine p_0 C hinX0 hW hS h l7 dX0_init_6 (fun S1 H locs e1 hW hS => ?_)
  subst e1
  exact k_vret C hr hlk hW hS hB rfl (Nat.le_refl _) (Nat.le_refl _) dX0_init_9
set_option maxRecDepth 100000 in
set_option maxHeartbeats 1000000 in
theorem c_X9_init {l : Launch} {D : va_G} {cy : Nat → ClassId} {B : Nat} {s0 : State} {S : PS} {a : Nat} (h : IsAt S 9 a) : KV l yX9_init wsX9_init ({ frames := 1, cells := 0, slots := 0, locals := 12 }) D cy B s0 [.ref a] S (fun S2 => S2 = sI S 901 a 1000) 0 0 := by
  refine k_body (own := RX9) (cc := cX9_init) (maxL := 1) (ret := none) rfl (by decide) rfl (Nat.le_of_ble_eq_true rfl) ?_
  intro p e s m below meth c C hml hr hlk hnm hB hW ls hl
  obtain ⟨hx, hb, hts, hown, hK, hEn⟩ := id C
  have hS : va_S (Aw B) s.heap s.heap [] := va_S.rf
  have hinX9 : ∀ w ∈ wsX90, w ∈ wsX9_init := by decide +kernel
  have l7 : Cond.fieldLink RX9 7 "LeaseGates$Ticker" "pace" "I" ∈ wsX9_init := by decide +kernel
  have hl : lv_has ls 1 [(0, .ref a)] := hl
  refine lv_aload_n hx hb dX9_init_0 rfl (lv_at hl 0 rfl) ?_
  refine W.objInit hx hb hown (hts (.methodLink RX9 1 objectInit) (by decide +kernel)) (hts (.instanceMethod objectInit) (by decide +kernel)) (hts _ (List.mem_of_getElem? (l := wsX9_init) (i := 3) rfl)) rfl (by rw [hml]; exact hl.1) rfl dX9_init_1 (Nat.le_of_ble_eq_true rfl) (Nat.le_of_ble_eq_true rfl) ?_
  refine W.eq (g2 := F0 m 4 ls []) rfl ?_
  refine lv_aload_n hx hb dX9_init_4 rfl (lv_at hl 0 rfl) ?_
  refine lv_sipush (v := 1000) hx hb dX9_init_5 (by decide) ?_
  refine p_901 C hinX9 hW hS h l7 dX9_init_8 (fun S1 H locs e1 hW hS => ?_)
  subst e1
  exact k_vret C hr hlk hW hS hB rfl (Nat.le_refl _) (Nat.le_refl _) dX9_init_11
set_option maxRecDepth 100000 in
set_option maxHeartbeats 1000000 in
theorem c_X5_init {l : Launch} {D : va_G} {cy : Nat → ClassId} {B : Nat} {s0 : State} {S : PS} {a : Nat} {x y z : Int32} (h : IsAt S 5 a) : KV l yX5_init wsX5_init ({ frames := 1, cells := 0, slots := 0, locals := 12 }) D cy B s0 [.ref a, .int x, .int y, .int z] S (fun S2 => S2 = sI (sI (sI S 500 a x) 501 a y) 502 a z) 0 0 := by
  refine k_body (own := RX5) (cc := cX5_init) (maxL := 4) (ret := none) rfl (by decide) rfl (Nat.le_of_ble_eq_true rfl) ?_
  intro p e s m below meth c C hml hr hlk hnm hB hW ls hl
  obtain ⟨hx, hb, hts, hown, hK, hEn⟩ := id C
  have hS : va_S (Aw B) s.heap s.heap [] := va_S.rf
  have hinX5 : ∀ w ∈ wsX50, w ∈ wsX5_init := by decide +kernel
  have l7 : Cond.fieldLink RX5 7 "LeaseGates$Loan" "number" "I" ∈ wsX5_init := by decide +kernel
  have l13 : Cond.fieldLink RX5 13 "LeaseGates$Loan" "tokens" "I" ∈ wsX5_init := by decide +kernel
  have l16 : Cond.fieldLink RX5 16 "LeaseGates$Loan" "end" "I" ∈ wsX5_init := by decide +kernel
  have hl : lv_has ls 4 [(0, .ref a), (1, .int x), (2, .int y), (3, .int z)] := hl
  refine lv_aload_n hx hb dX5_init_0 rfl (lv_at hl 0 rfl) ?_
  refine W.objInit hx hb hown (hts (.methodLink RX5 1 objectInit) (by decide +kernel)) (hts (.instanceMethod objectInit) (by decide +kernel)) (hts _ (List.mem_of_getElem? (l := wsX5_init) (i := 3) rfl)) rfl (by rw [hml]; exact hl.1) rfl dX5_init_1 (Nat.le_of_ble_eq_true rfl) (Nat.le_of_ble_eq_true rfl) ?_
  refine W.eq (g2 := F0 m 4 ls []) rfl ?_
  refine lv_aload_n hx hb dX5_init_4 rfl (lv_at hl 0 rfl) ?_
  refine lv_iload_n hx hb dX5_init_5 rfl (lv_at hl 1 rfl) ?_
  refine p_500 C hinX5 hW hS h l7 hnm rfl dX5_init_6 (fun S1 H locs e1 hW hS => ?_)
  subst e1
  refine lv_aload_n hx hb dX5_init_9 rfl (lv_at hl 0 rfl) ?_
  refine lv_iload_n hx hb dX5_init_10 rfl (lv_at hl 2 rfl) ?_
  refine p_501 C hinX5 hW hS h l13 hnm rfl dX5_init_11 (fun S1 H locs e1 hW hS => ?_)
  subst e1
  refine lv_aload_n hx hb dX5_init_14 rfl (lv_at hl 0 rfl) ?_
  refine lv_iload_n hx hb dX5_init_15 rfl (lv_at hl 3 rfl) ?_
  refine p_502 C hinX5 hW hS h l16 hnm rfl dX5_init_16 (fun S1 H locs e1 hW hS => ?_)
  subst e1
  exact k_vret C hr hlk hW hS hB rfl (Nat.le_refl _) (Nat.le_refl _) dX5_init_19
abbrev lMax (x y : Int64) : Int64 := if y < x then x else y
abbrev lMin (x y : Int64) : Int64 := if y < x then y else x
abbrev iMax (x y : Int32) : Int32 := if x < y then y else x
abbrev iMin (x y : Int32) : Int32 := if y < x then y else x
set_option maxRecDepth 100000 in
set_option maxHeartbeats 1000000 in
theorem c_X1_fill {l : Launch} {D : va_G} {cy : Nat → ClassId} {B : Nat} {s0 : State} {S : PS} {a : Nat} {x : Int64} (h : IsAt S 1 a) : KV l yX1_fill wsX1_fill ({ frames := 1, cells := 0, slots := 0, locals := 30 }) D cy B s0 [.ref a, .long x] S (fun S2 => S2 = sI S 103 a (lMin (lMax 0 (1000 * (fI S 102 a - fI S 104 a).toInt64)) ((fI S 103 a).toInt64 + x)).toInt32) 0 0 := by
  refine k_body (own := RX1) (cc := cX1_fill) (maxL := 5) (ret := none) rfl (by decide) rfl (Nat.le_of_ble_eq_true rfl) ?_
  intro p e s m below meth c C hml hr hlk hnm hB hW ls hl
  obtain ⟨hx, hb, hts, hown, hK, hEn⟩ := id C
  have hS : va_S (Aw B) s.heap s.heap [] := va_S.rf
  have hinX1 : ∀ w ∈ wsX10, w ∈ wsX1_fill := by decide +kernel
  have l22 : Cond.fieldLink RX1 22 "LeaseGates$Bucket" "burst" "I" ∈ wsX1_fill := by decide +kernel
  have l29 : Cond.constantLong RX1 29 (1000) ∈ wsX1_fill := by decide +kernel
  have l31 : Cond.fieldLink RX1 31 "LeaseGates$Bucket" "lent" "I" ∈ wsX1_fill := by decide +kernel
  have l40 : Cond.fieldLink RX1 40 "LeaseGates$Bucket" "level" "I" ∈ wsX1_fill := by decide +kernel
  have hl : lv_has ls 5 [(0, .ref a), (1, .long x)] := hl
  refine lv_lconst (v := 0) hx hb dX1_fill_0 (by decide) ?_
  refine lv_ldc2 hx hb hown (hts _ l29) dX1_fill_1 ?_
  refine lv_aload_n hx hb dX1_fill_4 rfl (lv_at hl 0 rfl) ?_
  refine g_102 C hinX1 hW h l22 dX1_fill_5 ?_
  refine lv_aload_n hx hb dX1_fill_8 rfl (lv_at hl 0 rfl) ?_
  refine g_104 C hinX1 hW h l31 dX1_fill_9 ?_
  refine lv_isub hx hb dX1_fill_12 ?_
  refine lv_i2l (v := ((fI S 102 a) - (fI S 104 a)).toInt64) hx hb dX1_fill_13 rfl ?_
  refine lv_lmul hx hb dX1_fill_14 ?_
  refine va_mmax_long hx hb (hml.trans hl.1.symm) hown (hts (.methodLink RX1 34 Lib.MathLoose.max_long.x) (by decide +kernel)) (hts (.static Lib.MathLoose.max_long.x) (by decide +kernel)) (hts (.initialized "java/lang/Math") (by decide +kernel)) (hts (.code Lib.MathLoose.max_long.x Lib.MathLoose.max_long.code 4 (some .long)) (by decide +kernel)) (by decide) (Nat.le_of_ble_eq_true rfl) (Nat.le_of_ble_eq_true rfl) (Nat.le_of_ble_eq_true rfl) dX1_fill_15 ?_
  refine lv_lstore_n (lv' := [(3, .long (lMax 0 (1000 * (((fI S 102 a) - (fI S 104 a)).toInt64)))), (0, .ref a), (1, .long x)]) hx hb dX1_fill_18 rfl hl (by decide) rfl (fun ls hl => ?_)
  refine lv_aload_n hx hb dX1_fill_19 rfl (lv_at hl 1 rfl) ?_
  refine lv_lload_n hx hb dX1_fill_20 rfl (lv_at hl 0 rfl) ?_
  refine lv_aload_n hx hb dX1_fill_21 rfl (lv_at hl 1 rfl) ?_
  refine g_103 C hinX1 hW h l40 dX1_fill_22 ?_
  refine lv_i2l (v := (fI S 103 a).toInt64) hx hb dX1_fill_25 rfl ?_
  refine lv_lload_n hx hb dX1_fill_26 rfl (lv_at hl 2 rfl) ?_
  refine lv_ladd hx hb dX1_fill_27 ?_
  refine va_mmin_long hx hb (hml.trans hl.1.symm) hown (hts (.methodLink RX1 43 Lib.MathLoose.min_long.x) (by decide +kernel)) (hts (.static Lib.MathLoose.min_long.x) (by decide +kernel)) (hts (.initialized "java/lang/Math") (by decide +kernel)) (hts (.code Lib.MathLoose.min_long.x Lib.MathLoose.min_long.code 4 (some .long)) (by decide +kernel)) (by decide) (Nat.le_of_ble_eq_true rfl) (Nat.le_of_ble_eq_true rfl) (Nat.le_of_ble_eq_true rfl) dX1_fill_28 ?_
  refine lv_l2i (v := (lMin (lMax 0 (1000 * (((fI S 102 a) - (fI S 104 a)).toInt64))) (((fI S 103 a).toInt64) + x)).toInt32) hx hb dX1_fill_31 rfl ?_
  refine p_103 C hinX1 hW hS h l40 dX1_fill_32 (fun S1 H locs e1 hW hS => ?_)
  subst e1
  exact k_vret C hr hlk hW hS hB rfl (Nat.le_refl _) (Nat.le_refl _) dX1_fill_35
