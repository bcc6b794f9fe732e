set_option maxRecDepth 100000 in
set_option maxHeartbeats 1000000 in
theorem c_X10_requireWithin {l : Launch} {D : va_G} {cy : Nat → ClassId} {B : Nat} {s0 : State} {S : PS} {v lo hi : Int32} (hv : lo ≤ v ∧ v ≤ hi) : KV l yX10_requireWithin wsX10_requireWithin ({ frames := 0, cells := 0, slots := 0, locals := 0 }) D cy B s0 [.int v, .int lo, .int hi] S (fun S2 => S2 = S) 0 0 := by
  refine k_body (own := RX10) (cc := cX10_requireWithin) (maxL := 3) (ret := none) rfl (by decide) rfl (Nat.le_of_ble_eq_true rfl) ?_
  intro p e s m below meth c C hml hr hlk hnm hB hW ls hl
  obtain ⟨hx, hb, hts, hown, hK, hEn⟩ := id C
  have hS : va_S (Aw B) s.heap s.heap [] := va_S.rf
  have hl : lv_has ls 3 [(0, .int v), (1, .int lo), (2, .int hi)] := hl
  refine lv_iload_n hx hb dX10_requireWithin_0 rfl (lv_at hl 0 rfl) ?_
  refine lv_iload_n hx hb dX10_requireWithin_1 rfl (lv_at hl 1 rfl) ?_
  refine lv_icmp_lt (tgt := 10) hx hb dX10_requireWithin_2 (by decide) (fun c_2 => absurd hv.1 (Int32.not_le.mpr c_2)) (fun c_2 => ?_)
  refine lv_iload_n hx hb dX10_requireWithin_5 rfl (lv_at hl 0 rfl) ?_
  refine lv_iload_n hx hb dX10_requireWithin_6 rfl (lv_at hl 2 rfl) ?_
  refine lv_icmp_le (tgt := 20) hx hb dX10_requireWithin_7 (by decide) (fun c_7 => ?_) (fun c_7 => absurd hv.2 c_7)
  exact k_vret C hr hlk hW hS hB rfl (Nat.le_refl _) (Nat.le_refl _) dX10_requireWithin_20
set_option maxRecDepth 100000 in
set_option maxHeartbeats 1000000 in
theorem c_X10_requireKey {l : Launch} {D : va_G} {cy : Nat → ClassId} {B : Nat} {s0 : State} {S : PS} {v : Int32} (hv : 0 ≤ v ∧ v ≤ 7) : KV l yX10_requireKey wsX10_requireKey ({ frames := 1, cells := 0, slots := 0, locals := 22 }) D cy B s0 [.int v] S (fun S2 => S2 = S) 0 0 := by
  refine k_body (own := RX10) (cc := cX10_requireKey) (maxL := 1) (ret := none) rfl (by decide) rfl (Nat.le_of_ble_eq_true rfl) ?_
  intro p e s m below meth c C hml hr hlk hnm hB hW ls hl
  obtain ⟨hx, hb, hts, hown, hK, hEn⟩ := id C
  have hS : va_S (Aw B) s.heap s.heap [] := va_S.rf
  have hl : lv_has ls 1 [(0, .int v)] := hl
  refine lv_iload_n hx hb dX10_requireKey_0 rfl (lv_at hl 0 rfl) ?_
  refine lv_iconst (v := 0) hx hb dX10_requireKey_1 (by decide) ?_
  refine lv_bipush (v := 7) hx hb dX10_requireKey_2 (by decide) ?_
  refine k_callSv (As := [.int v, .int 0, .int 7]) (rest := []) C hml (c_X10_requireWithin (v := v) (lo := 0) (hi := 7) (hv)) (va_cwS 3 hts gX10_requireKey_X10_requireWithin rfl rfl rfl (by decide +kernel) ⟨by decide, by decide⟩) hW hS hB rfl hl.1 rfl (Nat.le_of_ble_eq_true rfl) dX10_requireKey_4 ⟨Nat.le_of_ble_eq_true rfl, Nat.le_of_ble_eq_true rfl⟩ (fun S1 H locs hp9 hW hS => ?_)
  rw [hp9] at hW
  exact k_vret C hr hlk hW hS hB rfl (Nat.le_refl _) (Nat.le_refl _) dX10_requireKey_7
set_option maxRecDepth 100000 in
set_option maxHeartbeats 1000000 in
theorem c_X10_requireGate {l : Launch} {D : va_G} {cy : Nat → ClassId} {B : Nat} {s0 : State} {S : PS} {v : Int32} (hv : 0 ≤ v ∧ v ≤ 5) : KV l yX10_requireGate wsX10_requireGate ({ frames := 1, cells := 0, slots := 0, locals := 22 }) D cy B s0 [.int v] S (fun S2 => S2 = S) 0 0 := by
  refine k_body (own := RX10) (cc := cX10_requireGate) (maxL := 1) (ret := none) rfl (by decide) rfl (Nat.le_of_ble_eq_true rfl) ?_
  intro p e s m below meth c C hml hr hlk hnm hB hW ls hl
  obtain ⟨hx, hb, hts, hown, hK, hEn⟩ := id C
  have hS : va_S (Aw B) s.heap s.heap [] := va_S.rf
  have hl : lv_has ls 1 [(0, .int v)] := hl
  refine lv_iload_n hx hb dX10_requireGate_0 rfl (lv_at hl 0 rfl) ?_
  refine lv_iconst (v := 0) hx hb dX10_requireGate_1 (by decide) ?_
  refine lv_iconst (v := 5) hx hb dX10_requireGate_2 (by decide) ?_
  refine k_callSv (As := [.int v, .int 0, .int 5]) (rest := []) C hml (c_X10_requireWithin (v := v) (lo := 0) (hi := 5) (hv)) (va_cwS 3 hts gX10_requireGate_X10_requireWithin rfl rfl rfl (by decide +kernel) ⟨by decide, by decide⟩) hW hS hB rfl hl.1 rfl (Nat.le_of_ble_eq_true rfl) dX10_requireGate_3 ⟨Nat.le_of_ble_eq_true rfl, Nat.le_of_ble_eq_true rfl⟩ (fun S1 H locs hp9 hW hS => ?_)
  rw [hp9] at hW
  exact k_vret C hr hlk hW hS hB rfl (Nat.le_refl _) (Nat.le_refl _) dX10_requireGate_6
set_option maxRecDepth 100000 in
set_option maxHeartbeats 1000000 in
theorem c_X10_requireMessage {l : Launch} {D : va_G} {cy : Nat → ClassId} {B : Nat} {s0 : State} {S : PS} {y : Nat → Nat} {dE : Nat} {g : MS} {c0 : CS} {q b : Nat} (hC : CR S y dE g c0) (hm : MsgOk g) (hq : q < mqN g) (hz : aQ S (y 4) q = some b) : KQ l yX10_requireMessage wsX10_requireMessage ({ frames := 1, cells := 0, slots := 0, locals := 21 }) D cy B s0 [.ref (y 0), .int (nI q)] S (fun r S2 => S2 = S ∧ r = some b) 0 0 := by
  refine k_body (own := RX10) (cc := cX10_requireMessage) (maxL := 3) (ret := (some (.object "LeaseGates$Message"))) rfl (by decide) rfl (Nat.le_of_ble_eq_true rfl) ?_
  intro p e s m below meth c C hml hr hlk hnm hB hW ls hl
  obtain ⟨hx, hb, hts, hown, hK, hEn⟩ := id C
  have hS : va_S (Aw B) s.heap s.heap [] := va_S.rf
  have hinX10 : ∀ w ∈ wsX100, w ∈ wsX10_requireMessage := by decide +kernel
  have l19 : Cond.fieldLink RX10 19 "LeaseGates" "post" "LLeaseGates$Post;" ∈ wsX10_requireMessage := by decide +kernel
  have hl : lv_has ls 3 [(0, .ref (y 0)), (1, .int (nI q))] := hl
  have hF : CF S S y := CF.rf
  refine lv_aload_n hx hb dX10_requireMessage_0 rfl (lv_at hl 0 rfl) ?_
  refine g_1002 C hinX10 hW hC.1.lay.k0 hC.1.lay.r1002 l19 dX10_requireMessage_1 ?_
  refine lv_iload_n hx hb dX10_requireMessage_4 rfl (lv_at hl 1 rfl) ?_
  refine k_callVq (As := [.int (nI q)]) (rest := []) C hml (c_X7_find hC hm hq hz) (cwV 1 hts gX10_requireMessage_X7_find rfl rfl rfl (by decide +kernel) ⟨by decide, by decide⟩) hW hS hB (hC.1.lay.k2).1 (pAt_7 (hC.1.lay.k2).2) rfl rfl hl.1 rfl (Nat.le_of_ble_eq_true rfl) dX10_requireMessage_5 ⟨Nat.le_of_ble_eq_true rfl, Nat.le_of_ble_eq_true rfl⟩ (fun r9 S1 H locs hp9 hW hS => ?_)
  obtain ⟨e8, e9⟩ := hp9
  rw [e8] at hW
  subst e9
  refine lv_astore_n (lv' := [(2, .ref b), (0, .ref (y 0)), (1, .int (nI q))]) hx hb dX10_requireMessage_8 rfl hl (by decide) rfl (fun ls hl => ?_)
  refine lv_aload_n hx hb dX10_requireMessage_9 rfl (lv_at hl 0 rfl) ?_
  refine lv_ifnonnull (tgt := 23) hx hb dX10_requireMessage_10 (by decide) ?_
  refine lv_aload_n hx hb dX10_requireMessage_23 rfl (lv_at hl 0 rfl) ?_
  exact k_aret C hr hlk hW hS hB ⟨rfl, rfl⟩ (Or.inl ⟨_, rfl⟩) (Nat.le_refl _) (Nat.le_refl _) dX10_requireMessage_24
set_option maxRecDepth 100000 in
set_option maxHeartbeats 1000000 in
theorem c_X10_tickerOf {l : Launch} {D : va_G} {cy : Nat → ClassId} {B : Nat} {s0 : State} {S : PS} {y : Nat → Nat} {i : Nat} (hLy : Lay S y) (hi : i < 6) : KQ l yX10_tickerOf wsX10_tickerOf ({ frames := 0, cells := 0, slots := 0, locals := 0 }) D cy B s0 [.ref (y 0), .int (nI i)] S (fun r S2 => S2 = S ∧ r = some (y (30 + i))) 0 0 := by
  refine k_body (own := RX10) (cc := cX10_tickerOf) (maxL := 2) (ret := (some (.object "LeaseGates$Ticker"))) rfl (by decide) rfl (Nat.le_of_ble_eq_true rfl) ?_
  intro p e s m below meth c C hml hr hlk hnm hB hW ls hl
  obtain ⟨hx, hb, hts, hown, hK, hEn⟩ := id C
  have hS : va_S (Aw B) s.heap s.heap [] := va_S.rf
  have hinX10 : ∀ w ∈ wsX100, w ∈ wsX10_tickerOf := by decide +kernel
  have hinX3 : ∀ w ∈ wsX30, w ∈ wsX10_tickerOf := by decide +kernel
  have l25 : Cond.fieldLink RX10 25 "LeaseGates" "spenders" "[LLeaseGates$Gate;" ∈ wsX10_tickerOf := by decide +kernel
  have l119 : Cond.fieldLink RX10 119 "LeaseGates$Gate" "ticker" "LLeaseGates$Ticker;" ∈ wsX10_tickerOf := by decide +kernel
  have hl : lv_has ls 2 [(0, .ref (y 0)), (1, .int (nI i))] := hl
  refine lv_iload_n hx hb dX10_tickerOf_0 rfl (lv_at hl 1 rfl) ?_
  refine lv_iconst (v := (-1)) hx hb dX10_tickerOf_1 (by decide) ?_
  refine lv_icmp_ne (tgt := 15) hx hb dX10_tickerOf_2 (by decide) (fun c_2 => ?_) (fun c_2 => absurd c_2 (nI_nn hi))
  refine lv_aload_n hx hb dX10_tickerOf_15 rfl (lv_at hl 0 rfl) ?_
  refine g_1001 C hinX10 hW hLy.k0 hLy.r1001 l25 dX10_tickerOf_16 ?_
  refine lv_iload_n hx hb dX10_tickerOf_19 rfl (lv_at hl 1 rfl) ?_
  refine a_Gateload C hW (j := i) hLy.k3 hLy.n3 rfl (by omega) (by omega) (hLy.ga i (by omega)) dX10_tickerOf_20 ?_
  refine g_300 C hinX3 hW (hLy.gk i (by omega)) (hLy.r300 i (by omega)) l119 dX10_tickerOf_21 ?_
  exact k_aret C hr hlk hW hS hB ⟨rfl, rfl⟩ (Or.inl ⟨_, rfl⟩) (Nat.le_refl _) (Nat.le_refl _) dX10_tickerOf_24
set_option maxRecDepth 100000 in
set_option maxHeartbeats 1000000 in
theorem c_X10_tickerOf_r {l : Launch} {D : va_G} {cy : Nat → ClassId} {B : Nat} {s0 : State} {S : PS} {y : Nat → Nat} (hLy : Lay S y) : KQ l yX10_tickerOf wsX10_tickerOf ({ frames := 0, cells := 0, slots := 0, locals := 0 }) D cy B s0 [.ref (y 0), .int (-1)] S (fun r S2 => S2 = S ∧ r = some (y (30 + 6))) 0 0 := by
  refine k_body (own := RX10) (cc := cX10_tickerOf) (maxL := 2) (ret := (some (.object "LeaseGates$Ticker"))) rfl (by decide) rfl (Nat.le_of_ble_eq_true rfl) ?_
  intro p e s m below meth c C hml hr hlk hnm hB hW ls hl
  obtain ⟨hx, hb, hts, hown, hK, hEn⟩ := id C
  have hS : va_S (Aw B) s.heap s.heap [] := va_S.rf
  have hinX10 : ∀ w ∈ wsX100, w ∈ wsX10_tickerOf := by decide +kernel
  have hinX8 : ∀ w ∈ wsX80, w ∈ wsX10_tickerOf := by decide +kernel
  have l10 : Cond.fieldLink RX10 10 "LeaseGates" "lender" "LLeaseGates$Root;" ∈ wsX10_tickerOf := by decide +kernel
  have l188 : Cond.fieldLink RX10 188 "LeaseGates$Root" "ticker" "LLeaseGates$Ticker;" ∈ wsX10_tickerOf := by decide +kernel
  have hl : lv_has ls 2 [(0, .ref (y 0)), (1, .int (-1))] := hl
  refine lv_iload_n hx hb dX10_tickerOf_0 rfl (lv_at hl 1 rfl) ?_
  refine lv_iconst (v := (-1)) hx hb dX10_tickerOf_1 (by decide) ?_
  refine lv_icmp_ne (tgt := 15) hx hb dX10_tickerOf_2 (by decide) (fun c_2 => absurd rfl c_2) (fun c_2 => ?_)
  refine lv_aload_n hx hb dX10_tickerOf_5 rfl (lv_at hl 0 rfl) ?_
  refine g_1000 C hinX10 hW hLy.k0 hLy.r1000 l10 dX10_tickerOf_6 ?_
  refine g_800 C hinX8 hW hLy.k1 hLy.r800 l188 dX10_tickerOf_9 ?_
  refine lv_goto (tgt := 24) hx hb dX10_tickerOf_12 (by decide) ?_
  exact k_aret C hr hlk hW hS hB ⟨rfl, rfl⟩ (Or.inl ⟨_, rfl⟩) (Nat.le_refl _) (Nat.le_refl _) dX10_tickerOf_24
set_option maxRecDepth 100000 in
set_option maxHeartbeats 1000000 in
theorem c_X10_key {l : Launch} {D : va_G} {cy : Nat → ClassId} {B : Nat} {s0 : State} {S : PS} {y : Nat → Nat} {dE mi : Nat} {g : MS} {c0 : CS} {k n : Nat} {x1 x2 : Int32} (hC : CR S y dE g c0) (hE : EnvC dE mi B s0) (hk8 : k < 8) (hn3 : n ≤ 300) (hCB : CanB c0 g n) (hI : BInv g n) (h1 : 0 ≤ x1 ∧ x1 ≤ 100000) (h2 : 0 ≤ x2 ∧ x2 ≤ 1000000) : KV l yX10_key wsX10_key ({ frames := 3, cells := 0, slots := 0, locals := 76 }) D cy B s0 [.ref (y 0), .int (nI k), .int x1, .int x2] S (fun S2 => CF S S2 y ∧ CR S2 y dE (mKeyOk g n k x1 x2) c0) 0 0 := by
  refine k_body (own := RX10) (cc := cX10_key) (maxL := 4) (ret := none) rfl (by decide) rfl (Nat.le_of_ble_eq_true rfl) ?_
  intro p e s m below meth c C hml hr hlk hnm hB hW ls hl
  obtain ⟨hx, hb, hts, hown, hK, hEn⟩ := id C
  have hS : va_S (Aw B) s.heap s.heap [] := va_S.rf
  have hinX10 : ∀ w ∈ wsX100, w ∈ wsX10_key := by decide +kernel
  have hinX8 : ∀ w ∈ wsX80, w ∈ wsX10_key := by decide +kernel
  have l10 : Cond.fieldLink RX10 10 "LeaseGates" "lender" "LLeaseGates$Root;" ∈ wsX10_key := by decide +kernel
  have l35 : Cond.constant RX10 35 (100000) ∈ wsX10_key := by decide +kernel
  have l40 : Cond.constant RX10 40 (1000000) ∈ wsX10_key := by decide +kernel
  have l41 : Cond.fieldLink RX10 41 "LeaseGates$Root" "buckets" "[LLeaseGates$Bucket;" ∈ wsX10_key := by decide +kernel
  have hl : lv_has ls 4 [(0, .ref (y 0)), (1, .int (nI k)), (2, .int x1), (3, .int x2)] := hl
  have hF : CF S S y := CF.rf
  refine lv_iload_n hx hb dX10_key_0 rfl (lv_at hl 1 rfl) ?_
  refine k_callSv (As := [.int (nI k)]) (rest := []) C hml (c_X10_requireKey (rgK hk8)) (va_cwS 1 hts gX10_key_X10_requireKey rfl rfl rfl (by decide +kernel) ⟨by decide, by decide⟩) hW hS hB rfl hl.1 rfl (Nat.le_of_ble_eq_true rfl) dX10_key_1 ⟨Nat.le_of_ble_eq_true rfl, Nat.le_of_ble_eq_true rfl⟩ (fun S1 H locs hp9 hW hS => ?_)
  rw [hp9] at hW
  refine lv_iload_n hx hb dX10_key_4 rfl (lv_at hl 2 rfl) ?_
  refine lv_iconst (v := 0) hx hb dX10_key_5 (by decide) ?_
  refine lv_ldc hx hb hown (hts _ l35) dX10_key_6 ?_
  refine k_callSv (As := [.int x1, .int 0, .int 100000]) (rest := []) C hml (c_X10_requireWithin (v := x1) (lo := 0) (hi := 100000) (h1)) (va_cwS 3 hts gX10_key_X10_requireWithin rfl rfl rfl (by decide +kernel) ⟨by decide, by decide⟩) hW hS hB rfl hl.1 rfl (Nat.le_of_ble_eq_true rfl) dX10_key_8 ⟨Nat.le_of_ble_eq_true rfl, Nat.le_of_ble_eq_true rfl⟩ (fun S2 H locs hp9 hW hS => ?_)
  rw [hp9] at hW
  refine lv_iload_n hx hb dX10_key_11 rfl (lv_at hl 3 rfl) ?_
  refine lv_iconst (v := 0) hx hb dX10_key_12 (by decide) ?_
  refine lv_ldc hx hb hown (hts _ l40) dX10_key_13 ?_
  refine k_callSv (As := [.int x2, .int 0, .int 1000000]) (rest := []) C hml (c_X10_requireWithin (v := x2) (lo := 0) (hi := 1000000) (h2)) (va_cwS 3 hts gX10_key_X10_requireWithin rfl rfl rfl (by decide +kernel) ⟨by decide, by decide⟩) hW hS hB rfl hl.1 rfl (Nat.le_of_ble_eq_true rfl) dX10_key_15 ⟨Nat.le_of_ble_eq_true rfl, Nat.le_of_ble_eq_true rfl⟩ (fun S3 H locs hp9 hW hS => ?_)
  rw [hp9] at hW
  refine lv_aload_n hx hb dX10_key_18 rfl (lv_at hl 0 rfl) ?_
  refine g_1000 C hinX10 hW hC.1.lay.k0 hC.1.lay.r1000 l10 dX10_key_19 ?_
  refine g_801 C hinX8 hW hC.1.lay.k1 hC.1.lay.r801 l41 dX10_key_22 ?_
  refine lv_iload_n hx hb dX10_key_25 rfl (lv_at hl 1 rfl) ?_
  refine a_Bucketload C hW (j := k) hC.1.lay.k5 hC.1.lay.n5 rfl (by omega) (by omega) (hC.1.lay.ba k (by omega)) dX10_key_26 ?_
  refine lv_iload_n hx hb dX10_key_27 rfl (lv_at hl 2 rfl) ?_
  refine lv_iload_n hx hb dX10_key_28 rfl (lv_at hl 3 rfl) ?_
  refine k_callVv (As := [.int x1, .int x2]) (rest := []) C hml (c_X1_reshape hC hE hk8 hn3 hCB hI ⟨leI h1.1, leI h1.2⟩ ⟨leI h2.1, leI h2.2⟩) (cwV 2 hts gX10_key_X1_reshape rfl rfl rfl (by decide +kernel) ⟨by decide, by decide⟩) hW hS hB ((hC.1.lay.bk k (by omega))).1 (pAt_1 ((hC.1.lay.bk k (by omega))).2) rfl rfl hl.1 rfl (Nat.le_of_ble_eq_true rfl) dX10_key_29 ⟨Nat.le_of_ble_eq_true rfl, Nat.le_of_ble_eq_true rfl⟩ (fun S4 H locs hp9 hW hS => ?_)
  obtain ⟨f9, k9⟩ := hp9
  have hF9 := hF.tr f9
  clear hC hF
  have hC := k9
  have hF := hF9
  exact k_vret C hr hlk hW hS hB ⟨hF, hC⟩ (Nat.le_refl _) (Nat.le_refl _) dX10_key_32
set_option maxRecDepth 100000 in
set_option maxHeartbeats 1000000 in
theorem c_X10_length {l : Launch} {D : va_G} {cy : Nat → ClassId} {B : Nat} {s0 : State} {S : PS} {y : Nat → Nat} {dE mi : Nat} {g : MS} {c0 : CS} {x : Int32} (hC : CR S y dE g c0) (hE : EnvC dE mi B s0) (h1 : 10 ≤ x ∧ x ≤ 9000) : KV l yX10_length wsX10_length ({ frames := 1, cells := 0, slots := 0, locals := 22 }) D cy B s0 [.ref (y 0), .int x] S (fun S2 => CF S S2 y ∧ CR S2 y dE (iF g 1111 x) c0) 0 0 := by
  refine k_body (own := RX10) (cc := cX10_length) (maxL := 2) (ret := none) rfl (by decide) rfl (Nat.le_of_ble_eq_true rfl) ?_
  intro p e s m below meth c C hml hr hlk hnm hB hW ls hl
  obtain ⟨hx, hb, hts, hown, hK, hEn⟩ := id C
  have hS : va_S (Aw B) s.heap s.heap [] := va_S.rf
  have hinX10 : ∀ w ∈ wsX100, w ∈ wsX10_length := by decide +kernel
  have hinX8 : ∀ w ∈ wsX80, w ∈ wsX10_length := by decide +kernel
  have l10 : Cond.fieldLink RX10 10 "LeaseGates" "lender" "LLeaseGates$Root;" ∈ wsX10_length := by decide +kernel
  have l51 : Cond.fieldLink RX10 51 "LeaseGates$Root" "loanLength" "I" ∈ wsX10_length := by decide +kernel
  have hl : lv_has ls 2 [(0, .ref (y 0)), (1, .int x)] := hl
  have hF : CF S S y := CF.rf
  refine lv_iload_n hx hb dX10_length_0 rfl (lv_at hl 1 rfl) ?_
  refine lv_bipush (v := 10) hx hb dX10_length_1 (by decide) ?_
  refine lv_sipush (v := 9000) hx hb dX10_length_3 (by decide) ?_
  refine k_callSv (As := [.int x, .int 10, .int 9000]) (rest := []) C hml (c_X10_requireWithin (v := x) (lo := 10) (hi := 9000) (h1)) (va_cwS 3 hts gX10_length_X10_requireWithin rfl rfl rfl (by decide +kernel) ⟨by decide, by decide⟩) hW hS hB rfl hl.1 rfl (Nat.le_of_ble_eq_true rfl) dX10_length_6 ⟨Nat.le_of_ble_eq_true rfl, Nat.le_of_ble_eq_true rfl⟩ (fun S1 H locs hp9 hW hS => ?_)
  rw [hp9] at hW
  refine lv_aload_n hx hb dX10_length_9 rfl (lv_at hl 0 rfl) ?_
  refine g_1000 C hinX10 hW hC.1.lay.k0 hC.1.lay.r1000 l10 dX10_length_10 ?_
  refine lv_iload_n hx hb dX10_length_13 rfl (lv_at hl 1 rfl) ?_
  refine p_804 C hinX8 hW hS hC.1.lay.k1 l51 dX10_length_14 (fun S2 H locs e1 hW hS => ?_)
  have hF9 : CF S S2 y := by rw [e1]; exact hF.sI hC.1.lay.k1 (by decide)
  have hC9 : CR S2 y dE (iF g 1111 x) c0 := by rw [e1]; exact hC.wll
  clear hC hF e1
  have hF := hF9
  have hC := hC9
  clear hC9 hF9
  exact k_vret C hr hlk hW hS hB ⟨hF, hC⟩ (Nat.le_refl _) (Nat.le_refl _) dX10_length_17
set_option maxRecDepth 100000 in
set_option maxHeartbeats 1000000 in
theorem c_X10_weight {l : Launch} {D : va_G} {cy : Nat → ClassId} {B : Nat} {s0 : State} {S : PS} {y : Nat → Nat} {dE mi : Nat} {g : MS} {c0 : CS} {gt kk : Nat} {x : Int32} (hC : CR S y dE g c0) (hE : EnvC dE mi B s0) (hg : gt < 6) (hk8 : kk < 8) (h1 : 1 ≤ x ∧ x ≤ 100) : KV l yX10_weight wsX10_weight ({ frames := 2, cells := 0, slots := 0, locals := 42 }) D cy B s0 [.ref (y 0), .int (nI gt), .int (nI kk), .int x] S (fun S2 => CF S S2 y ∧ CR S2 y dE (iI g 19 (8 * gt + kk) x) c0) 0 0 := by
  refine k_body (own := RX10) (cc := cX10_weight) (maxL := 4) (ret := none) rfl (by decide) rfl (Nat.le_of_ble_eq_true rfl) ?_
  intro p e s m below meth c C hml hr hlk hnm hB hW ls hl
  obtain ⟨hx, hb, hts, hown, hK, hEn⟩ := id C
  have hS : va_S (Aw B) s.heap s.heap [] := va_S.rf
  have hinX0 : ∀ w ∈ wsX00, w ∈ wsX10_weight := by decide +kernel
  have hinX10 : ∀ w ∈ wsX100, w ∈ wsX10_weight := by decide +kernel
  have l10 : Cond.fieldLink RX10 10 "LeaseGates" "lender" "LLeaseGates$Root;" ∈ wsX10_weight := by decide +kernel
  have l62 : Cond.fieldLink RX10 62 "LeaseGates$Account" "share" "I" ∈ wsX10_weight := by decide +kernel
  have hl : lv_has ls 4 [(0, .ref (y 0)), (1, .int (nI gt)), (2, .int (nI kk)), (3, .int x)] := hl
  have hF : CF S S y := CF.rf
  refine lv_iload_n hx hb dX10_weight_0 rfl (lv_at hl 1 rfl) ?_
  refine k_callSv (As := [.int (nI gt)]) (rest := []) C hml (c_X10_requireGate (rgG hg)) (va_cwS 1 hts gX10_weight_X10_requireGate rfl rfl rfl (by decide +kernel) ⟨by decide, by decide⟩) hW hS hB rfl hl.1 rfl (Nat.le_of_ble_eq_true rfl) dX10_weight_1 ⟨Nat.le_of_ble_eq_true rfl, Nat.le_of_ble_eq_true rfl⟩ (fun S1 H locs hp9 hW hS => ?_)
  rw [hp9] at hW
  refine lv_iload_n hx hb dX10_weight_4 rfl (lv_at hl 2 rfl) ?_
  refine k_callSv (As := [.int (nI kk)]) (rest := []) C hml (c_X10_requireKey (rgK hk8)) (va_cwS 1 hts gX10_weight_X10_requireKey rfl rfl rfl (by decide +kernel) ⟨by decide, by decide⟩) hW hS hB rfl hl.1 rfl (Nat.le_of_ble_eq_true rfl) dX10_weight_5 ⟨Nat.le_of_ble_eq_true rfl, Nat.le_of_ble_eq_true rfl⟩ (fun S2 H locs hp9 hW hS => ?_)
  rw [hp9] at hW
  refine lv_iload_n hx hb dX10_weight_8 rfl (lv_at hl 3 rfl) ?_
  refine lv_iconst (v := 1) hx hb dX10_weight_9 (by decide) ?_
  refine lv_bipush (v := 100) hx hb dX10_weight_10 (by decide) ?_
  refine k_callSv (As := [.int x, .int 1, .int 100]) (rest := []) C hml (c_X10_requireWithin (v := x) (lo := 1) (hi := 100) (h1)) (va_cwS 3 hts gX10_weight_X10_requireWithin rfl rfl rfl (by decide +kernel) ⟨by decide, by decide⟩) hW hS hB rfl hl.1 rfl (Nat.le_of_ble_eq_true rfl) dX10_weight_12 ⟨Nat.le_of_ble_eq_true rfl, Nat.le_of_ble_eq_true rfl⟩ (fun S3 H locs hp9 hW hS => ?_)
  rw [hp9] at hW
  refine lv_aload_n hx hb dX10_weight_15 rfl (lv_at hl 0 rfl) ?_
  refine g_1000 C hinX10 hW hC.1.lay.k0 hC.1.lay.r1000 l10 dX10_weight_16 ?_
  refine lv_iload_n hx hb dX10_weight_19 rfl (lv_at hl 1 rfl) ?_
  refine lv_iload_n hx hb dX10_weight_20 rfl (lv_at hl 2 rfl) ?_
  refine k_callVq (As := [.int (nI gt), .int (nI kk)]) (rest := []) C hml (c_X8_accountOf hC.1.lay (by omega) (by omega)) (cwV 2 hts gX10_weight_X8_accountOf rfl rfl rfl (by decide +kernel) ⟨by decide, by decide⟩) hW hS hB (hC.1.lay.k1).1 (pAt_8 (hC.1.lay.k1).2) rfl rfl hl.1 rfl (Nat.le_of_ble_eq_true rfl) dX10_weight_21 ⟨Nat.le_of_ble_eq_true rfl, Nat.le_of_ble_eq_true rfl⟩ (fun r9 S4 H locs hp9 hW hS => ?_)
  obtain ⟨e8, e9⟩ := hp9
  rw [e8] at hW
  subst e9
  refine lv_iload_n hx hb dX10_weight_24 rfl (lv_at hl 3 rfl) ?_
  refine p_0 C hinX0 hW hS (hC.1.lay.ck (8 * gt + kk) (by omega)) l62 dX10_weight_25 (fun S5 H locs e1 hW hS => ?_)
  have hF9 : CF S S5 y := by rw [e1]; exact hF.sI (hC.1.lay.ck (8 * gt + kk) (by omega)) (by decide)
  have hC9 : CR S5 y dE (iI g 19 (8 * gt + kk) x) c0 := by rw [e1]; exact hC.wa0
  clear hC hF e1
  have hF := hF9
  have hC := hC9
  clear hC9 hF9
  exact k_vret C hr hlk hW hS hB ⟨hF, hC⟩ (Nat.le_refl _) (Nat.le_refl _) dX10_weight_28
set_option maxRecDepth 100000 in
set_option maxHeartbeats 1000000 in
theorem c_X10_speed {l : Launch} {D : va_G} {cy : Nat → ClassId} {B : Nat} {s0 : State} {S : PS} {y : Nat → Nat} {dE mi : Nat} {g : MS} {c0 : CS} {i : Nat} {x : Int32} (hC : CR S y dE g c0) (hE : EnvC dE mi B s0) (hi : i < 6) (h1 : 999 ≤ x ∧ x ≤ 1001) : KV l yX10_speed wsX10_speed ({ frames := 1, cells := 0, slots := 0, locals := 22 }) D cy B s0 [.ref (y 0), .int (nI i), .int x] S (fun S2 => CF S S2 y ∧ CR S2 y dE (iI g 2 i x) c0) 0 0 := by
  refine k_body (own := RX10) (cc := cX10_speed) (maxL := 3) (ret := none) rfl (by decide) rfl (Nat.le_of_ble_eq_true rfl) ?_
  intro p e s m below meth c C hml hr hlk hnm hB hW ls hl
  obtain ⟨hx, hb, hts, hown, hK, hEn⟩ := id C
  have hS : va_S (Aw B) s.heap s.heap [] := va_S.rf
  have hinX9 : ∀ w ∈ wsX90, w ∈ wsX10_speed := by decide +kernel
  have l71 : Cond.fieldLink RX10 71 "LeaseGates$Ticker" "pace" "I" ∈ wsX10_speed := by decide +kernel
  have hl : lv_has ls 3 [(0, .ref (y 0)), (1, .int (nI i)), (2, .int x)] := hl
  have hF : CF S S y := CF.rf
  refine lv_iload_n hx hb dX10_speed_0 rfl (lv_at hl 1 rfl) ?_
  refine lv_iconst (v := (-1)) hx hb dX10_speed_1 (by decide) ?_
  refine lv_iconst (v := 5) hx hb dX10_speed_2 (by decide) ?_
  refine k_callSv (As := [.int (nI i), .int (-1), .int 5]) (rest := []) C hml (c_X10_requireWithin (v := nI i) (lo := (-1)) (hi := 5) (rgN hi)) (va_cwS 3 hts gX10_speed_X10_requireWithin rfl rfl rfl (by decide +kernel) ⟨by decide, by decide⟩) hW hS hB rfl hl.1 rfl (Nat.le_of_ble_eq_true rfl) dX10_speed_3 ⟨Nat.le_of_ble_eq_true rfl, Nat.le_of_ble_eq_true rfl⟩ (fun S1 H locs hp9 hW hS => ?_)
  rw [hp9] at hW
  refine lv_iload_n hx hb dX10_speed_6 rfl (lv_at hl 2 rfl) ?_
  refine lv_sipush (v := 999) hx hb dX10_speed_7 (by decide) ?_
  refine lv_sipush (v := 1001) hx hb dX10_speed_10 (by decide) ?_
  refine k_callSv (As := [.int x, .int 999, .int 1001]) (rest := []) C hml (c_X10_requireWithin (v := x) (lo := 999) (hi := 1001) (h1)) (va_cwS 3 hts gX10_speed_X10_requireWithin rfl rfl rfl (by decide +kernel) ⟨by decide, by decide⟩) hW hS hB rfl hl.1 rfl (Nat.le_of_ble_eq_true rfl) dX10_speed_13 ⟨Nat.le_of_ble_eq_true rfl, Nat.le_of_ble_eq_true rfl⟩ (fun S2 H locs hp9 hW hS => ?_)
  rw [hp9] at hW
  refine lv_aload_n hx hb dX10_speed_16 rfl (lv_at hl 0 rfl) ?_
  refine lv_iload_n hx hb dX10_speed_17 rfl (lv_at hl 1 rfl) ?_
  refine k_callVq (As := [.int (nI i)]) (rest := []) C hml (c_X10_tickerOf hC.1.lay hi) (cwV 1 hts gX10_speed_X10_tickerOf rfl rfl rfl (by decide +kernel) ⟨by decide, by decide⟩) hW hS hB (hC.1.lay.k0).1 (pAt_10 (hC.1.lay.k0).2) rfl rfl hl.1 rfl (Nat.le_of_ble_eq_true rfl) dX10_speed_18 ⟨Nat.le_of_ble_eq_true rfl, Nat.le_of_ble_eq_true rfl⟩ (fun r9 S3 H locs hp9 hW hS => ?_)
  obtain ⟨e8, e9⟩ := hp9
  rw [e8] at hW
  subst e9
  refine lv_iload_n hx hb dX10_speed_21 rfl (lv_at hl 2 rfl) ?_
  refine p_901 C hinX9 hW hS (hC.1.lay.tk i (by omega)) l71 dX10_speed_22 (fun S4 H locs e1 hW hS => ?_)
  have hF9 : CF S S4 y := by rw [e1]; exact hF.sI (hC.1.lay.tk i (by omega)) (by decide)
  have hC9 : CR S4 y dE (iI g 2 i x) c0 := by rw [e1]; exact hC.wt1
  clear hC hF e1
  have hF := hF9
  have hC := hC9
  clear hC9 hF9
  exact k_vret C hr hlk hW hS hB ⟨hF, hC⟩ (Nat.le_refl _) (Nat.le_refl _) dX10_speed_25
set_option maxRecDepth 100000 in
set_option maxHeartbeats 1000000 in
theorem c_X10_speed_r {l : Launch} {D : va_G} {cy : Nat → ClassId} {B : Nat} {s0 : State} {S : PS} {y : Nat → Nat} {dE mi : Nat} {g : MS} {c0 : CS} {x : Int32} (hC : CR S y dE g c0) (hE : EnvC dE mi B s0) (h1 : 999 ≤ x ∧ x ≤ 1001) : KV l yX10_speed wsX10_speed ({ frames := 1, cells := 0, slots := 0, locals := 22 }) D cy B s0 [.ref (y 0), .int (-1), .int x] S (fun S2 => CF S S2 y ∧ CR S2 y dE (iI g 2 6 x) c0) 0 0 := by
  refine k_body (own := RX10) (cc := cX10_speed) (maxL := 3) (ret := none) rfl (by decide) rfl (Nat.le_of_ble_eq_true rfl) ?_
  intro p e s m below meth c C hml hr hlk hnm hB hW ls hl
  obtain ⟨hx, hb, hts, hown, hK, hEn⟩ := id C
  have hS : va_S (Aw B) s.heap s.heap [] := va_S.rf
  have hinX9 : ∀ w ∈ wsX90, w ∈ wsX10_speed := by decide +kernel
  have l71 : Cond.fieldLink RX10 71 "LeaseGates$Ticker" "pace" "I" ∈ wsX10_speed := by decide +kernel
  have hl : lv_has ls 3 [(0, .ref (y 0)), (1, .int (-1)), (2, .int x)] := hl
  have hF : CF S S y := CF.rf
  refine lv_iload_n hx hb dX10_speed_0 rfl (lv_at hl 1 rfl) ?_
  refine lv_iconst (v := (-1)) hx hb dX10_speed_1 (by decide) ?_
  refine lv_iconst (v := 5) hx hb dX10_speed_2 (by decide) ?_
  refine k_callSv (As := [.int (-1), .int (-1), .int 5]) (rest := []) C hml (c_X10_requireWithin (v := (-1)) (lo := (-1)) (hi := 5) (⟨Int32.le_refl _, by decide⟩)) (va_cwS 3 hts gX10_speed_X10_requireWithin rfl rfl rfl (by decide +kernel) ⟨by decide, by decide⟩) hW hS hB rfl hl.1 rfl (Nat.le_of_ble_eq_true rfl) dX10_speed_3 ⟨Nat.le_of_ble_eq_true rfl, Nat.le_of_ble_eq_true rfl⟩ (fun S1 H locs hp9 hW hS => ?_)
  rw [hp9] at hW
  refine lv_iload_n hx hb dX10_speed_6 rfl (lv_at hl 2 rfl) ?_
  refine lv_sipush (v := 999) hx hb dX10_speed_7 (by decide) ?_
  refine lv_sipush (v := 1001) hx hb dX10_speed_10 (by decide) ?_
  refine k_callSv (As := [.int x, .int 999, .int 1001]) (rest := []) C hml (c_X10_requireWithin (v := x) (lo := 999) (hi := 1001) (h1)) (va_cwS 3 hts gX10_speed_X10_requireWithin rfl rfl rfl (by decide +kernel) ⟨by decide, by decide⟩) hW hS hB rfl hl.1 rfl (Nat.le_of_ble_eq_true rfl) dX10_speed_13 ⟨Nat.le_of_ble_eq_true rfl, Nat.le_of_ble_eq_true rfl⟩ (fun S2 H locs hp9 hW hS => ?_)
  rw [hp9] at hW
  refine lv_aload_n hx hb dX10_speed_16 rfl (lv_at hl 0 rfl) ?_
  refine lv_iload_n hx hb dX10_speed_17 rfl (lv_at hl 1 rfl) ?_
  refine k_callVq (As := [.int (-1)]) (rest := []) C hml (c_X10_tickerOf_r hC.1.lay) (cwV 1 hts gX10_speed_X10_tickerOf rfl rfl rfl (by decide +kernel) ⟨by decide, by decide⟩) hW hS hB (hC.1.lay.k0).1 (pAt_10 (hC.1.lay.k0).2) rfl rfl hl.1 rfl (Nat.le_of_ble_eq_true rfl) dX10_speed_18 ⟨Nat.le_of_ble_eq_true rfl, Nat.le_of_ble_eq_true rfl⟩ (fun r9 S3 H locs hp9 hW hS => ?_)
  obtain ⟨e8, e9⟩ := hp9
  rw [e8] at hW
  subst e9
  refine lv_iload_n hx hb dX10_speed_21 rfl (lv_at hl 2 rfl) ?_
  refine p_901 C hinX9 hW hS (hC.1.lay.tk 6 (by omega)) l71 dX10_speed_22 (fun S4 H locs e1 hW hS => ?_)
  have hF9 : CF S S4 y := by rw [e1]; exact hF.sI (hC.1.lay.tk 6 (by omega)) (by decide)
  have hC9 : CR S4 y dE (iI g 2 6 x) c0 := by rw [e1]; exact hC.wt1
  clear hC hF e1
  have hF := hF9
  have hC := hC9
  clear hC9 hF9
  exact k_vret C hr hlk hW hS hB ⟨hF, hC⟩ (Nat.le_refl _) (Nat.le_refl _) dX10_speed_25
set_option maxRecDepth 100000 in
set_option maxHeartbeats 1000000 in
theorem c_X10_take {l : Launch} {D : va_G} {cy : Nat → ClassId} {B : Nat} {s0 : State} {S : PS} {y : Nat → Nat} {dE mi : Nat} {g : MS} {c0 : CS} {gt kk : Nat} {x : Int32} {n : Nat} (hC : CR S y dE g c0) (hE : EnvC dE mi B s0) (hg : gt < 6) (hk8 : kk < 8) (hn3 : n ≤ 300) (hL : cP c0 (8 * gt + kk) = hs g gt kk n) (hk0 : HOk g gt kk n) (hT0 : ∀ h, h < n → mHold g gt kk h → HT g h) (hct : CT g gt) (h1 : 1 ≤ x ∧ x ≤ 10000) : KI l yX10_take wsX10_take ({ frames := 7, cells := 0, slots := 0, locals := 177 }) D cy B s0 [.ref (y 0), .int (nI gt), .int (nI kk), .int x] S (fun r S2 => ∃ c2, CF S S2 y ∧ CR S2 y dE (mTkOk g n gt kk x).1 c2 ∧ CsD c0 c2 (8 * gt + kk) (hs (mTkOk g n gt kk x).1 gt kk n) ∧ r = (mTkOk g n gt kk x).2) 0 0 := by
  refine k_body (own := RX10) (cc := cX10_take) (maxL := 5) (ret := (some .boolean)) rfl (by decide) rfl (Nat.le_of_ble_eq_true rfl) ?_
  intro p e s m below meth c C hml hr hlk hnm hB hW ls hl
  obtain ⟨hx, hb, hts, hown, hK, hEn⟩ := id C
  have hS : va_S (Aw B) s.heap s.heap [] := va_S.rf
  have hinX1 : ∀ w ∈ wsX10, w ∈ wsX10_take := by decide +kernel
  have hinX10 : ∀ w ∈ wsX100, w ∈ wsX10_take := by decide +kernel
  have hinX8 : ∀ w ∈ wsX80, w ∈ wsX10_take := by decide +kernel
  have l10 : Cond.fieldLink RX10 10 "LeaseGates" "lender" "LLeaseGates$Root;" ∈ wsX10_take := by decide +kernel
  have l25 : Cond.fieldLink RX10 25 "LeaseGates" "spenders" "[LLeaseGates$Gate;" ∈ wsX10_take := by decide +kernel
  have l41 : Cond.fieldLink RX10 41 "LeaseGates$Root" "buckets" "[LLeaseGates$Bucket;" ∈ wsX10_take := by decide +kernel
  have l80 : Cond.fieldLink RX10 80 "LeaseGates$Bucket" "spentAtGates" "I" ∈ wsX10_take := by decide +kernel
  have hl : lv_has ls 5 [(0, .ref (y 0)), (1, .int (nI gt)), (2, .int (nI kk)), (3, .int x)] := hl
  have hF : CF S S y := CF.rf
  refine lv_iload_n hx hb dX10_take_0 rfl (lv_at hl 1 rfl) ?_
  refine k_callSv (As := [.int (nI gt)]) (rest := []) C hml (c_X10_requireGate (rgG hg)) (va_cwS 1 hts gX10_take_X10_requireGate rfl rfl rfl (by decide +kernel) ⟨by decide, by decide⟩) hW hS hB rfl hl.1 rfl (Nat.le_of_ble_eq_true rfl) dX10_take_1 ⟨Nat.le_of_ble_eq_true rfl, Nat.le_of_ble_eq_true rfl⟩ (fun S1 H locs hp9 hW hS => ?_)
  rw [hp9] at hW
  refine lv_iload_n hx hb dX10_take_4 rfl (lv_at hl 2 rfl) ?_
  refine k_callSv (As := [.int (nI kk)]) (rest := []) C hml (c_X10_requireKey (rgK hk8)) (va_cwS 1 hts gX10_take_X10_requireKey rfl rfl rfl (by decide +kernel) ⟨by decide, by decide⟩) hW hS hB rfl hl.1 rfl (Nat.le_of_ble_eq_true rfl) dX10_take_5 ⟨Nat.le_of_ble_eq_true rfl, Nat.le_of_ble_eq_true rfl⟩ (fun S2 H locs hp9 hW hS => ?_)
  rw [hp9] at hW
  refine lv_iload_n hx hb dX10_take_8 rfl (lv_at hl 3 rfl) ?_
  refine lv_iconst (v := 1) hx hb dX10_take_9 (by decide) ?_
  refine lv_sipush (v := 10000) hx hb dX10_take_10 (by decide) ?_
  refine k_callSv (As := [.int x, .int 1, .int 10000]) (rest := []) C hml (c_X10_requireWithin (v := x) (lo := 1) (hi := 10000) (h1)) (va_cwS 3 hts gX10_take_X10_requireWithin rfl rfl rfl (by decide +kernel) ⟨by decide, by decide⟩) hW hS hB rfl hl.1 rfl (Nat.le_of_ble_eq_true rfl) dX10_take_13 ⟨Nat.le_of_ble_eq_true rfl, Nat.le_of_ble_eq_true rfl⟩ (fun S3 H locs hp9 hW hS => ?_)
  rw [hp9] at hW
  refine lv_aload_n hx hb dX10_take_16 rfl (lv_at hl 0 rfl) ?_
  refine g_1001 C hinX10 hW hC.1.lay.k0 hC.1.lay.r1001 l25 dX10_take_17 ?_
  refine lv_iload_n hx hb dX10_take_20 rfl (lv_at hl 1 rfl) ?_
  refine a_Gateload C hW (j := gt) hC.1.lay.k3 hC.1.lay.n3 rfl (by omega) (by omega) (hC.1.lay.ga gt (by omega)) dX10_take_21 ?_
  refine lv_iload_n hx hb dX10_take_22 rfl (lv_at hl 2 rfl) ?_
  refine lv_iload_n hx hb dX10_take_23 rfl (lv_at hl 3 rfl) ?_
  refine k_callVi (As := [.int (nI kk), .int x]) (rest := []) C hml (c_X3_spend hC hE hg hk8 hn3 hL hk0 hT0 hct ⟨leI h1.1, leI h1.2⟩) (cwV 2 hts gX10_take_X3_spend rfl rfl rfl (by decide +kernel) ⟨by decide, by decide⟩) hW hS hB ((hC.1.lay.gk gt (by omega))).1 (pAt_3 ((hC.1.lay.gk gt (by omega))).2) rfl rfl hl.1 rfl (Nat.le_of_ble_eq_true rfl) dX10_take_24 ⟨Nat.le_of_ble_eq_true rfl, Nat.le_of_ble_eq_true rfl⟩ (fun r9 S4 H locs hp9 hW hS => ?_)
  obtain ⟨c9, f9, k9, d9, e9⟩ := hp9
  subst e9
  have hF9 := hF.tr f9
  clear hC hF
  have hC := k9
  have hF := hF9
  refine lv_istore (lv' := [(4, .int ((mSpend g n gt kk x).2)), (0, .ref (y 0)), (1, .int (nI gt)), (2, .int (nI kk)), (3, .int x)]) hx hb dX10_take_27 hl (by decide) rfl (fun ls hl => ?_)
  refine lv_iload hx hb dX10_take_29 (lv_at hl 0 rfl) ?_
  refine lv_if_eq (tgt := 52) hx hb dX10_take_31 (by decide) (fun c_31 => ?_) (fun c_31 => ?_)
  · refine lv_iload hx hb dX10_take_52 (lv_at hl 0 rfl) ?_
    exact k_zret C hr hlk hW hS hB ⟨c9, hF, by rw [mTkX_a c_31]; exact hC, by rw [mTkX_a c_31]; exact d9, by rw [mTkX_a c_31]⟩ (mSpend_z _ _ _ _ _) (Nat.le_refl _) (Nat.le_refl _) dX10_take_54
  · refine lv_aload_n hx hb dX10_take_34 rfl (lv_at hl 1 rfl) ?_
    refine g_1000 C hinX10 hW hC.1.lay.k0 hC.1.lay.r1000 l10 dX10_take_35 ?_
    refine g_801 C hinX8 hW hC.1.lay.k1 hC.1.lay.r801 l41 dX10_take_38 ?_
    refine lv_iload_n hx hb dX10_take_41 rfl (lv_at hl 3 rfl) ?_
    refine a_Bucketload C hW (j := kk) hC.1.lay.k5 hC.1.lay.n5 rfl (by omega) (by omega) (hC.1.lay.ba kk (by omega)) dX10_take_42 ?_
    refine lv_dup hx hb dX10_take_43 rfl ?_
    refine g_105 C hinX1 hW (hC.1.lay.bk kk (by omega)) l80 dX10_take_44 ?_
    refine top_i (show fI S4 105 (y (40 + kk)) = ((mSpend g n gt kk x).1).1 6 kk from hC.1.b5 kk (by omega)) ?_
    refine lv_iload_n hx hb dX10_take_47 rfl (lv_at hl 4 rfl) ?_
    refine lv_iadd hx hb dX10_take_48 ?_
    refine p_105 C hinX1 hW hS (hC.1.lay.bk kk (by omega)) l80 dX10_take_49 (fun S5 H locs e1 hW hS => ?_)
    have hF9 : CF S S5 y := by rw [e1]; exact hF.sI (hC.1.lay.bk kk (by omega)) (by decide)
    have hC9 : CR S5 y dE (iI ((mSpend g n gt kk x).1) 6 kk ((((mSpend g n gt kk x).1).1 6 kk) + x)) c9 := by rw [e1]; exact hC.wb5
    clear hC hF e1
    have hF := hF9
    have hC := hC9
    clear hC9 hF9
    refine lv_iload hx hb dX10_take_52 (lv_at hl 0 rfl) ?_
    exact k_zret C hr hlk hW hS hB ⟨c9, hF, by rw [mTkX_b c_31]; exact hC, by rw [mTkX_b c_31]; exact d9, by rw [mTkX_b c_31]⟩ (mSpend_z _ _ _ _ _) (Nat.le_refl _) (Nat.le_refl _) dX10_take_54
set_option maxRecDepth 100000 in
set_option maxHeartbeats 1000000 in
theorem c_X10_work {l : Launch} {D : va_G} {cy : Nat → ClassId} {B : Nat} {s0 : State} {S : PS} {y : Nat → Nat} {dE mi : Nat} {g : MS} {c0 : CS} {gt n : Nat} (hC : CR S y dE g c0) (hE : EnvC dE mi B s0) (hg : gt < 6) (hn3 : n ≤ 300) (hH : CanH c0 g n) (hm : MsgOk g) : KI l yX10_work wsX10_work ({ frames := 6, cells := 308, slots := 2464, locals := 179 }) D cy B s0 [.ref (y 0), .int (nI gt)] S (fun r S2 => ∃ c2, CF S S2 y ∧ CR S2 y dE (mWorkN g gt n 8).1 c2 ∧ CanH c2 (mWorkN g gt n 8).1 n ∧ cQl c2 = cQl c0 ∧ cE c2 = cE c0 ∧ r = (mWorkN g gt n 8).2) 308 2464 := by
  refine k_body (own := RX10) (cc := cX10_work) (maxL := 3) (ret := (some .int)) rfl (by decide) rfl (Nat.le_of_ble_eq_true rfl) ?_
  intro p e s m below meth c C hml hr hlk hnm hB hW ls hl
  obtain ⟨hx, hb, hts, hown, hK, hEn⟩ := id C
  have hS : va_S (Aw B) s.heap s.heap [] := va_S.rf
  have hinX10 : ∀ w ∈ wsX100, w ∈ wsX10_work := by decide +kernel
  have hinX7 : ∀ w ∈ wsX70, w ∈ wsX10_work := by decide +kernel
  have l19 : Cond.fieldLink RX10 19 "LeaseGates" "post" "LLeaseGates$Post;" ∈ wsX10_work := by decide +kernel
  have l25 : Cond.fieldLink RX10 25 "LeaseGates" "spenders" "[LLeaseGates$Gate;" ∈ wsX10_work := by decide +kernel
  have l83 : Cond.fieldLink RX10 83 "LeaseGates$Post" "count" "I" ∈ wsX10_work := by decide +kernel
  have hl : lv_has ls 3 [(0, .ref (y 0)), (1, .int (nI gt))] := hl
  have hF : CF S S y := CF.rf
  refine lv_iload_n hx hb dX10_work_0 rfl (lv_at hl 1 rfl) ?_
  refine k_callSv (As := [.int (nI gt)]) (rest := []) C hml (c_X10_requireGate (rgG hg)) (va_cwS 1 hts gX10_work_X10_requireGate rfl rfl rfl (by decide +kernel) ⟨by decide, by decide⟩) hW hS hB rfl hl.1 rfl (Nat.le_of_ble_eq_true rfl) dX10_work_1 ⟨Nat.le_of_ble_eq_true rfl, Nat.le_of_ble_eq_true rfl⟩ (fun S1 H locs hp9 hW hS => ?_)
  rw [hp9] at hW
  refine lv_aload_n hx hb dX10_work_4 rfl (lv_at hl 0 rfl) ?_
  refine g_1002 C hinX10 hW hC.1.lay.k0 hC.1.lay.r1002 l19 dX10_work_5 ?_
  refine g_701 C hinX7 hW hC.1.lay.k2 l83 dX10_work_8 ?_
  refine top_i (show fI S 701 (y 2) = g.2.2 1131 from hC.1.pc) ?_
  refine lv_istore_n (lv' := [(2, .int (g.2.2 1131)), (0, .ref (y 0)), (1, .int (nI gt))]) hx hb dX10_work_11 rfl hl (by decide) rfl (fun ls hl => ?_)
  refine lv_aload_n hx hb dX10_work_12 rfl (lv_at hl 1 rfl) ?_
  refine g_1001 C hinX10 hW hC.1.lay.k0 hC.1.lay.r1001 l25 dX10_work_13 ?_
  refine lv_iload_n hx hb dX10_work_16 rfl (lv_at hl 2 rfl) ?_
  refine a_Gateload C hW (j := gt) hC.1.lay.k3 hC.1.lay.n3 rfl (by omega) (by omega) (hC.1.lay.ga gt (by omega)) dX10_work_17 ?_
  refine lv_aload_n hx hb dX10_work_18 rfl (lv_at hl 1 rfl) ?_
  refine g_1002 C hinX10 hW hC.1.lay.k0 hC.1.lay.r1002 l19 dX10_work_19 ?_
  refine k_callVv (As := [.ref (y 2)]) (rest := []) C hml (c_X3_settle hC hE hg hn3 hH hm) (cwV 1 hts gX10_work_X3_settle rfl rfl rfl (by decide +kernel) ⟨by decide, by decide⟩) hW hS hB ((hC.1.lay.gk gt (by omega))).1 (pAt_3 ((hC.1.lay.gk gt (by omega))).2) rfl rfl hl.1 rfl (Nat.le_of_ble_eq_true rfl) dX10_work_22 ⟨Nat.le_of_ble_eq_true rfl, Nat.le_of_ble_eq_true rfl⟩ (fun S2 H locs hp9 hW hS => ?_)
  obtain ⟨c9, f9, k9, h9, q9, e9⟩ := hp9
  have hF9 := hF.tr f9
  clear hC hF
  have hC := k9
  have hF := hF9
  refine lv_aload_n hx hb dX10_work_25 rfl (lv_at hl 1 rfl) ?_
  refine g_1002 C hinX10 hW hC.1.lay.k0 hC.1.lay.r1002 l19 dX10_work_26 ?_
  refine g_701 C hinX7 hW hC.1.lay.k2 l83 dX10_work_29 ?_
  refine top_i (show fI S2 701 (y 2) = ((mWorkN g gt n 8).1).2.2 1131 from hC.1.pc) ?_
  refine lv_iload_n hx hb dX10_work_32 rfl (lv_at hl 0 rfl) ?_
  refine lv_isub hx hb dX10_work_33 ?_
  exact k_iret C hr hlk hW hS hB ⟨c9, hF, hC, h9, q9, e9, (mWorkN_cnt hm gt n 8).1.symm⟩ (Nat.le_of_ble_eq_true rfl) (Nat.le_of_ble_eq_true rfl) dX10_work_34
set_option maxRecDepth 100000 in
set_option maxHeartbeats 1000000 in
theorem c_X10_carry_a {l : Launch} {D : va_G} {cy : Nat → ClassId} {B : Nat} {s0 : State} {S : PS} {y : Nat → Nat} {dE mi : Nat} {g : MS} {c0 : CS} {gt kk n q : Nat} {b : Nat} {x3 x4 x5 x6 x7 : Int32} (hC : CR S y dE g c0) (hE : EnvC dE mi B s0) (hm : MsgOk g) (hq : q < mqN g) (hz : aQ S (y 4) q = some b) (hg : gt < 6) (hk8 : kk < 8) (hn0 : mNew g gt kk x3 x5 → n < 300) (hnl : g.2.2 1107 = nI n) (hCB : CanB c0 g n) (hI : BInv g n) (hw9 : WOk g) (ht : 0 < x4.toInt) (hc5 : 0 ≤ x5.toInt) (hM : MsgAt S b 0 (nI gt) (nI kk) x3 x4 x5 x6 x7) : KI l yX10_carry wsX10_carry ({ frames := 10, cells := 3, slots := 1111, locals := 263 }) D cy B s0 [.ref (y 0), .int (nI q)] S (fun r S2 => ∃ c2, CF S S2 y ∧ CR S2 y dE (mAsks g n gt kk x4 x3 x5).1 c2 ∧ CanB c2 (mAsks g n gt kk x4 x3 x5).1 (mN g n gt kk x4 x3 x5) ∧ cP c2 = cP c0 ∧ r = (mAsks g n gt kk x4 x3 x5).2) 3 1111 := by
  refine k_body (own := RX10) (cc := cX10_carry) (maxL := 3) (ret := (some .boolean)) rfl (by decide) rfl (Nat.le_of_ble_eq_true rfl) ?_
  intro p e s m below meth c C hml hr hlk hnm hB hW ls hl
  obtain ⟨hx, hb, hts, hown, hK, hEn⟩ := id C
  have hS : va_S (Aw B) s.heap s.heap [] := va_S.rf
  have hinX10 : ∀ w ∈ wsX100, w ∈ wsX10_carry := by decide +kernel
  have hinX6 : ∀ w ∈ wsX60, w ∈ wsX10_carry := by decide +kernel
  have l10 : Cond.fieldLink RX10 10 "LeaseGates" "lender" "LLeaseGates$Root;" ∈ wsX10_carry := by decide +kernel
  have l19 : Cond.fieldLink RX10 19 "LeaseGates" "post" "LLeaseGates$Post;" ∈ wsX10_carry := by decide +kernel
  have l94 : Cond.fieldLink RX10 94 "LeaseGates$Message" "kind" "I" ∈ wsX10_carry := by decide +kernel
  have hl : lv_has ls 3 [(0, .ref (y 0)), (1, .int (nI q))] := hl
  have hF : CF S S y := CF.rf
  refine lv_aload_n hx hb dX10_carry_0 rfl (lv_at hl 0 rfl) ?_
  refine lv_iload_n hx hb dX10_carry_1 rfl (lv_at hl 1 rfl) ?_
  refine k_callVq (As := [.int (nI q)]) (rest := []) C hml (c_X10_requireMessage hC hm hq hz) (cwV 1 hts gX10_carry_X10_requireMessage rfl rfl rfl (by decide +kernel) ⟨by decide, by decide⟩) hW hS hB (hC.1.lay.k0).1 (pAt_10 (hC.1.lay.k0).2) rfl rfl hl.1 rfl (Nat.le_of_ble_eq_true rfl) dX10_carry_2 ⟨Nat.le_of_ble_eq_true rfl, Nat.le_of_ble_eq_true rfl⟩ (fun r9 S1 H locs hp9 hW hS => ?_)
  obtain ⟨e8, e9⟩ := hp9
  rw [e8] at hW
  subst e9
  refine lv_astore_n (lv' := [(2, .ref b), (0, .ref (y 0)), (1, .int (nI q))]) hx hb dX10_carry_5 rfl hl (by decide) rfl (fun ls hl => ?_)
  refine lv_aload_n hx hb dX10_carry_6 rfl (lv_at hl 0 rfl) ?_
  refine g_600 C hinX6 hW hM.1 l94 dX10_carry_7 ?_
  refine top_i (show fI S 600 b = 0 from hM.2.1) ?_
  refine lv_lookup (off := 26) (tgt := 36) hx hb dX10_carry_10 (by decide) (by decide) (by decide) ?_
  refine lv_aload_n hx hb dX10_carry_36 rfl (lv_at hl 1 rfl) ?_
  refine g_1000 C hinX10 hW hC.1.lay.k0 hC.1.lay.r1000 l10 dX10_carry_37 ?_
  refine lv_aload_n hx hb dX10_carry_40 rfl (lv_at hl 0 rfl) ?_
  refine lv_aload_n hx hb dX10_carry_41 rfl (lv_at hl 1 rfl) ?_
  refine g_1002 C hinX10 hW hC.1.lay.k0 hC.1.lay.r1002 l19 dX10_carry_42 ?_
  refine k_callVi (As := [.ref b, .ref (y 2)]) (rest := []) C hml (c_X8_hearAsk hC hE hg hk8 hn0 hnl hCB hI hw9 hm ht hc5 hM) (cwV 2 hts gX10_carry_X8_hearAsk rfl rfl rfl (by decide +kernel) ⟨by decide, by decide⟩) hW hS hB (hC.1.lay.k1).1 (pAt_8 (hC.1.lay.k1).2) rfl rfl hl.1 rfl (Nat.le_of_ble_eq_true rfl) dX10_carry_45 ⟨Nat.le_of_ble_eq_true rfl, Nat.le_of_ble_eq_true rfl⟩ (fun r9 S2 H locs hp9 hW hS => ?_)
  obtain ⟨c9, f9, k9, b9, p9, e9⟩ := hp9
  subst e9
  exact k_zret C hr hlk hW hS hB ⟨c9, f9, k9, b9, p9, rfl⟩ (mAsks_z _ _ _ _ _ _ _) (Nat.le_refl _) (Nat.le_refl _) dX10_carry_48
set_option maxRecDepth 100000 in
set_option maxHeartbeats 1000000 in
theorem c_X10_carry_r {l : Launch} {D : va_G} {cy : Nat → ClassId} {B : Nat} {s0 : State} {S : PS} {y : Nat → Nat} {dE mi : Nat} {g : MS} {c0 : CS} {gt kk n q : Nat} {b h : Nat} {x3 x4 x5 x7 : Int32} (hC : CR S y dE g c0) (hE : EnvC dE mi B s0) (hm : MsgOk g) (hq : q < mqN g) (hz : aQ S (y 4) q = some b) (hg : gt < 6) (hk8 : kk < 8) (hn3 : n ≤ 300) (hCB : CanB c0 g n) (hI : BInv g n) (hh9 : h < n) (hkey : g.1 8 h = nI kk) (ht : 0 ≤ x4.toInt) (hM : MsgAt S b 2 (nI gt) (nI kk) x3 x4 x5 (nI h) x7) : KI l yX10_carry wsX10_carry ({ frames := 10, cells := 0, slots := 0, locals := 263 }) D cy B s0 [.ref (y 0), .int (nI q)] S (fun r S2 => ∃ c2, CF S S2 y ∧ CR S2 y dE (mRet g n gt x4 x3 h kk).1 c2 ∧ CanB c2 (mRet g n gt x4 x3 h kk).1 n ∧ cP c2 = cP c0 ∧ r = (mRet g n gt x4 x3 h kk).2) 0 0 := by
  refine k_body (own := RX10) (cc := cX10_carry) (maxL := 3) (ret := (some .boolean)) rfl (by decide) rfl (Nat.le_of_ble_eq_true rfl) ?_
  intro p e s m below meth c C hml hr hlk hnm hB hW ls hl
  obtain ⟨hx, hb, hts, hown, hK, hEn⟩ := id C
  have hS : va_S (Aw B) s.heap s.heap [] := va_S.rf
  have hinX10 : ∀ w ∈ wsX100, w ∈ wsX10_carry := by decide +kernel
  have hinX6 : ∀ w ∈ wsX60, w ∈ wsX10_carry := by decide +kernel
  have l10 : Cond.fieldLink RX10 10 "LeaseGates" "lender" "LLeaseGates$Root;" ∈ wsX10_carry := by decide +kernel
  have l94 : Cond.fieldLink RX10 94 "LeaseGates$Message" "kind" "I" ∈ wsX10_carry := by decide +kernel
  have hl : lv_has ls 3 [(0, .ref (y 0)), (1, .int (nI q))] := hl
  have hF : CF S S y := CF.rf
  refine lv_aload_n hx hb dX10_carry_0 rfl (lv_at hl 0 rfl) ?_
  refine lv_iload_n hx hb dX10_carry_1 rfl (lv_at hl 1 rfl) ?_
  refine k_callVq (As := [.int (nI q)]) (rest := []) C hml (c_X10_requireMessage hC hm hq hz) (cwV 1 hts gX10_carry_X10_requireMessage rfl rfl rfl (by decide +kernel) ⟨by decide, by decide⟩) hW hS hB (hC.1.lay.k0).1 (pAt_10 (hC.1.lay.k0).2) rfl rfl hl.1 rfl (Nat.le_of_ble_eq_true rfl) dX10_carry_2 ⟨Nat.le_of_ble_eq_true rfl, Nat.le_of_ble_eq_true rfl⟩ (fun r9 S1 H locs hp9 hW hS => ?_)
  obtain ⟨e8, e9⟩ := hp9
  rw [e8] at hW
  subst e9
  refine lv_astore_n (lv' := [(2, .ref b), (0, .ref (y 0)), (1, .int (nI q))]) hx hb dX10_carry_5 rfl hl (by decide) rfl (fun ls hl => ?_)
  refine lv_aload_n hx hb dX10_carry_6 rfl (lv_at hl 0 rfl) ?_
  refine g_600 C hinX6 hW hM.1 l94 dX10_carry_7 ?_
  refine top_i (show fI S 600 b = 2 from hM.2.1) ?_
  refine lv_lookup (off := 39) (tgt := 49) hx hb dX10_carry_10 (by decide) (by decide) (by decide) ?_
  refine lv_aload_n hx hb dX10_carry_49 rfl (lv_at hl 1 rfl) ?_
  refine g_1000 C hinX10 hW hC.1.lay.k0 hC.1.lay.r1000 l10 dX10_carry_50 ?_
  refine lv_aload_n hx hb dX10_carry_53 rfl (lv_at hl 0 rfl) ?_
  refine k_callVi (As := [.ref b]) (rest := []) C hml (c_X8_hearReturn hC hE hg hk8 hn3 hCB hI hh9 hkey ht hM) (cwV 1 hts gX10_carry_X8_hearReturn rfl rfl rfl (by decide +kernel) ⟨by decide, by decide⟩) hW hS hB (hC.1.lay.k1).1 (pAt_8 (hC.1.lay.k1).2) rfl rfl hl.1 rfl (Nat.le_of_ble_eq_true rfl) dX10_carry_54 ⟨Nat.le_of_ble_eq_true rfl, Nat.le_of_ble_eq_true rfl⟩ (fun r9 S2 H locs hp9 hW hS => ?_)
  obtain ⟨c9, f9, k9, b9, p9, e9⟩ := hp9
  subst e9
  exact k_zret C hr hlk hW hS hB ⟨c9, f9, k9, b9, p9, rfl⟩ (mRet_z _ _ _ _ _ _ _) (Nat.le_refl _) (Nat.le_refl _) dX10_carry_57
set_option maxRecDepth 100000 in
set_option maxHeartbeats 1000000 in
theorem c_X10_carry_g {l : Launch} {D : va_G} {cy : Nat → ClassId} {B : Nat} {s0 : State} {S : PS} {y : Nat → Nat} {dE mi : Nat} {g : MS} {c0 : CS} {gt kk q : Nat} {b h : Nat} {x3 x4 x5 x6 x7 : Int32} (hC : CR S y dE g c0) (hE : EnvC dE mi B s0) (hm : MsgOk g) (hq : q < mqN g) (hz : aQ S (y 4) q = some b) (hg : gt < 6) (hk8 : kk < 8) (hM : MsgAt S b 1 (nI gt) (nI kk) x3 x4 x5 x6 x7) (hl0 : (cP c0 (8 * gt + kk)).length < 400) (hnum : 0 < x4 → x3 = g.1 20 gt → ¬ g.1 24 (8 * gt + kk) = 0 → x5 = g.1 23 (8 * gt + kk) → h < 300 ∧ x6 = nI h ∧ ∀ j, j < 48 → h ∉ cP c0 j) : KI l yX10_carry wsX10_carry ({ frames := 10, cells := 2, slots := 1104, locals := 263 }) D cy B s0 [.ref (y 0), .int (nI q)] S (fun r S2 => ∃ c2, CF S S2 y ∧ CR S2 y dE (kHear g gt kk h x3 x4 x5 x7).1 c2 ∧ CsD c0 c2 (8 * gt + kk) (kHearL g gt kk h x3 x4 x5 (cP c0 (8 * gt + kk))) ∧ r = (kHear g gt kk h x3 x4 x5 x7).2) 2 1104 := by
  refine k_body (own := RX10) (cc := cX10_carry) (maxL := 3) (ret := (some .boolean)) rfl (by decide) rfl (Nat.le_of_ble_eq_true rfl) ?_
  intro p e s m below meth c C hml hr hlk hnm hB hW ls hl
  obtain ⟨hx, hb, hts, hown, hK, hEn⟩ := id C
  have hS : va_S (Aw B) s.heap s.heap [] := va_S.rf
  have hinX10 : ∀ w ∈ wsX100, w ∈ wsX10_carry := by decide +kernel
  have hinX6 : ∀ w ∈ wsX60, w ∈ wsX10_carry := by decide +kernel
  have l25 : Cond.fieldLink RX10 25 "LeaseGates" "spenders" "[LLeaseGates$Gate;" ∈ wsX10_carry := by decide +kernel
  have l94 : Cond.fieldLink RX10 94 "LeaseGates$Message" "kind" "I" ∈ wsX10_carry := by decide +kernel
  have l107 : Cond.fieldLink RX10 107 "LeaseGates$Message" "gate" "I" ∈ wsX10_carry := by decide +kernel
  have hl : lv_has ls 3 [(0, .ref (y 0)), (1, .int (nI q))] := hl
  have hF : CF S S y := CF.rf
  refine lv_aload_n hx hb dX10_carry_0 rfl (lv_at hl 0 rfl) ?_
  refine lv_iload_n hx hb dX10_carry_1 rfl (lv_at hl 1 rfl) ?_
  refine k_callVq (As := [.int (nI q)]) (rest := []) C hml (c_X10_requireMessage hC hm hq hz) (cwV 1 hts gX10_carry_X10_requireMessage rfl rfl rfl (by decide +kernel) ⟨by decide, by decide⟩) hW hS hB (hC.1.lay.k0).1 (pAt_10 (hC.1.lay.k0).2) rfl rfl hl.1 rfl (Nat.le_of_ble_eq_true rfl) dX10_carry_2 ⟨Nat.le_of_ble_eq_true rfl, Nat.le_of_ble_eq_true rfl⟩ (fun r9 S1 H locs hp9 hW hS => ?_)
  obtain ⟨e8, e9⟩ := hp9
  rw [e8] at hW
  subst e9
  refine lv_astore_n (lv' := [(2, .ref b), (0, .ref (y 0)), (1, .int (nI q))]) hx hb dX10_carry_5 rfl hl (by decide) rfl (fun ls hl => ?_)
  refine lv_aload_n hx hb dX10_carry_6 rfl (lv_at hl 0 rfl) ?_
  refine g_600 C hinX6 hW hM.1 l94 dX10_carry_7 ?_
  refine top_i (show fI S 600 b = 1 from hM.2.1) ?_
  refine lv_lookup (off := 48) (tgt := 58) hx hb dX10_carry_10 (by decide) (by decide) (by decide) ?_
  refine lv_aload_n hx hb dX10_carry_58 rfl (lv_at hl 1 rfl) ?_
  refine g_1001 C hinX10 hW hC.1.lay.k0 hC.1.lay.r1001 l25 dX10_carry_59 ?_
  refine lv_aload_n hx hb dX10_carry_62 rfl (lv_at hl 0 rfl) ?_
  refine g_601 C hinX6 hW hM.1 l107 dX10_carry_63 ?_
  refine top_i (show fI S 601 b = nI gt from hM.2.2.1) ?_
  refine a_Gateload C hW (j := gt) hC.1.lay.k3 hC.1.lay.n3 rfl (by omega) (by omega) (hC.1.lay.ga gt (by omega)) dX10_carry_66 ?_
  refine lv_aload_n hx hb dX10_carry_67 rfl (lv_at hl 0 rfl) ?_
  refine k_callVi (As := [.ref b]) (rest := []) C hml (c_X3_hearGrant hC hE hg hk8 hM hl0 hnum) (cwV 1 hts gX10_carry_X3_hearGrant rfl rfl rfl (by decide +kernel) ⟨by decide, by decide⟩) hW hS hB ((hC.1.lay.gk gt (by omega))).1 (pAt_3 ((hC.1.lay.gk gt (by omega))).2) rfl rfl hl.1 rfl (Nat.le_of_ble_eq_true rfl) dX10_carry_68 ⟨Nat.le_of_ble_eq_true rfl, Nat.le_of_ble_eq_true rfl⟩ (fun r9 S2 H locs hp9 hW hS => ?_)
  obtain ⟨c9, f9, k9, d9, e9⟩ := hp9
  subst e9
  exact k_zret C hr hlk hW hS hB ⟨c9, f9, k9, d9, rfl⟩ (kHear_z _ _ _ _ _ _ _ _) (Nat.le_refl _) (Nat.le_refl _) dX10_carry_71
set_option maxRecDepth 100000 in
set_option maxHeartbeats 1000000 in
theorem c_X10_drop {l : Launch} {D : va_G} {cy : Nat → ClassId} {B : Nat} {s0 : State} {S : PS} {y : Nat → Nat} {dE mi : Nat} {g : MS} {c0 : CS} {q b : Nat} (hC : CR S y dE g c0) (hE : EnvC dE mi B s0) (hm : MsgOk g) (hq : q < mqN g) (hz : aQ S (y 4) q = some b) : KV l yX10_drop wsX10_drop ({ frames := 2, cells := 0, slots := 0, locals := 43 }) D cy B s0 [.ref (y 0), .int (nI q)] S (fun S2 => CF S S2 y ∧ CR S2 y dE (iI g 33 q 0) c0) 0 0 := by
  refine k_body (own := RX10) (cc := cX10_drop) (maxL := 2) (ret := none) rfl (by decide) rfl (Nat.le_of_ble_eq_true rfl) ?_
  intro p e s m below meth c C hml hr hlk hnm hB hW ls hl
  obtain ⟨hx, hb, hts, hown, hK, hEn⟩ := id C
  have hS : va_S (Aw B) s.heap s.heap [] := va_S.rf
  have hinX10 : ∀ w ∈ wsX100, w ∈ wsX10_drop := by decide +kernel
  have l19 : Cond.fieldLink RX10 19 "LeaseGates" "post" "LLeaseGates$Post;" ∈ wsX10_drop := by decide +kernel
  have hl : lv_has ls 2 [(0, .ref (y 0)), (1, .int (nI q))] := hl
  have hF : CF S S y := CF.rf
  refine lv_aload_n hx hb dX10_drop_0 rfl (lv_at hl 0 rfl) ?_
  refine lv_iload_n hx hb dX10_drop_1 rfl (lv_at hl 1 rfl) ?_
  refine k_callVq (As := [.int (nI q)]) (rest := []) C hml (c_X10_requireMessage hC hm hq hz) (cwV 1 hts gX10_drop_X10_requireMessage rfl rfl rfl (by decide +kernel) ⟨by decide, by decide⟩) hW hS hB (hC.1.lay.k0).1 (pAt_10 (hC.1.lay.k0).2) rfl rfl hl.1 rfl (Nat.le_of_ble_eq_true rfl) dX10_drop_2 ⟨Nat.le_of_ble_eq_true rfl, Nat.le_of_ble_eq_true rfl⟩ (fun r9 S1 H locs hp9 hW hS => ?_)
  obtain ⟨e8, e9⟩ := hp9
  rw [e8] at hW
  subst e9
  refine lv_pop hx hb dX10_drop_5 rfl ?_
  refine lv_aload_n hx hb dX10_drop_6 rfl (lv_at hl 0 rfl) ?_
  refine g_1002 C hinX10 hW hC.1.lay.k0 hC.1.lay.r1002 l19 dX10_drop_7 ?_
  refine lv_iload_n hx hb dX10_drop_10 rfl (lv_at hl 1 rfl) ?_
  refine k_callVv (As := [.int (nI q)]) (rest := []) C hml (c_X7_discard hC hm hq) (cwV 1 hts gX10_drop_X7_discard rfl rfl rfl (by decide +kernel) ⟨by decide, by decide⟩) hW hS hB (hC.1.lay.k2).1 (pAt_7 (hC.1.lay.k2).2) rfl rfl hl.1 rfl (Nat.le_of_ble_eq_true rfl) dX10_drop_11 ⟨Nat.le_of_ble_eq_true rfl, Nat.le_of_ble_eq_true rfl⟩ (fun S2 H locs hp9 hW hS => ?_)
  obtain ⟨f9, k9⟩ := hp9
  have hF9 := hF.tr f9
  clear hC hF
  have hC := k9
  have hF := hF9
  exact k_vret C hr hlk hW hS hB ⟨hF, hC⟩ (Nat.le_refl _) (Nat.le_refl _) dX10_drop_14
set_option maxRecDepth 100000 in
set_option maxHeartbeats 1000000 in
theorem c_X10_tick {l : Launch} {D : va_G} {cy : Nat → ClassId} {B : Nat} {s0 : State} {S : PS} {y : Nat → Nat} {dE mi : Nat} {g : MS} {c0 : CS} {n : Nat} {x : Int32} (hC : CR S y dE g c0) (hE : EnvC dE mi B s0) (hn3 : n ≤ 300) (hCB0 : CanB c0 g n) (hI : BInv g n) (hat : 0 ≤ (mClk g 6).toInt ∧ (mClk g 6).toInt ≤ (mClk (iL g 1 6 (g.2.1 1 6 + x.toInt64 * (g.1 2 6).toInt64)) 6).toInt) (hend : ∀ k, k < 8 → ∀ h, h ∈ lsB g k n → (mClk g 6).toInt < (g.1 10 h).toInt) (h1 : 1 ≤ x ∧ x ≤ 5000) : KV l yX10_tick wsX10_tick ({ frames := 6, cells := 0, slots := 0, locals := 176 }) D cy B s0 [.ref (y 0), .int x] S (fun S2 => ∃ c2, CF S S2 y ∧ CR S2 y dE (mGone (kPs (iL g 1 6 (g.2.1 1 6 + x.toInt64 * (g.1 2 6).toInt64)) n (mClk g 6) (mClk (iL g 1 6 (g.2.1 1 6 + x.toInt64 * (g.1 2 6).toInt64)) 6) 8) x 6) c2 ∧ CanB c2 (kPs (iL g 1 6 (g.2.1 1 6 + x.toInt64 * (g.1 2 6).toInt64)) n (mClk g 6) (mClk (iL g 1 6 (g.2.1 1 6 + x.toInt64 * (g.1 2 6).toInt64)) 6) 8) n ∧ cP c2 = cP c0) 0 0 := by
  refine k_body (own := RX10) (cc := cX10_tick) (maxL := 3) (ret := none) rfl (by decide) rfl (Nat.le_of_ble_eq_true rfl) ?_
  intro p e s m below meth c C hml hr hlk hnm hB hW ls hl
  obtain ⟨hx, hb, hts, hown, hK, hEn⟩ := id C
  have hS : va_S (Aw B) s.heap s.heap [] := va_S.rf
  have hinX10 : ∀ w ∈ wsX100, w ∈ wsX10_tick := by decide +kernel
  have hinX3 : ∀ w ∈ wsX30, w ∈ wsX10_tick := by decide +kernel
  have l10 : Cond.fieldLink RX10 10 "LeaseGates" "lender" "LLeaseGates$Root;" ∈ wsX10_tick := by decide +kernel
  have l25 : Cond.fieldLink RX10 25 "LeaseGates" "spenders" "[LLeaseGates$Gate;" ∈ wsX10_tick := by decide +kernel
  have l119 : Cond.fieldLink RX10 119 "LeaseGates$Gate" "ticker" "LLeaseGates$Ticker;" ∈ wsX10_tick := by decide +kernel
  have hl : lv_has ls 3 [(0, .ref (y 0)), (1, .int x)] := hl
  have hF : CF S S y := CF.rf
  refine lv_iload_n hx hb dX10_tick_0 rfl (lv_at hl 1 rfl) ?_
  refine lv_iconst (v := 1) hx hb dX10_tick_1 (by decide) ?_
  refine lv_sipush (v := 5000) hx hb dX10_tick_2 (by decide) ?_
  refine k_callSv (As := [.int x, .int 1, .int 5000]) (rest := []) C hml (c_X10_requireWithin (v := x) (lo := 1) (hi := 5000) (h1)) (va_cwS 3 hts gX10_tick_X10_requireWithin rfl rfl rfl (by decide +kernel) ⟨by decide, by decide⟩) hW hS hB rfl hl.1 rfl (Nat.le_of_ble_eq_true rfl) dX10_tick_5 ⟨Nat.le_of_ble_eq_true rfl, Nat.le_of_ble_eq_true rfl⟩ (fun S1 H locs hp9 hW hS => ?_)
  rw [hp9] at hW
  refine lv_aload_n hx hb dX10_tick_8 rfl (lv_at hl 0 rfl) ?_
  refine g_1000 C hinX10 hW hC.1.lay.k0 hC.1.lay.r1000 l10 dX10_tick_9 ?_
  refine lv_iload_n hx hb dX10_tick_12 rfl (lv_at hl 1 rfl) ?_
  refine k_callVv (As := [.int x]) (rest := []) C hml (c_X8_advance hC hE hn3 hCB0 hI hat hend) (cwV 1 hts gX10_tick_X8_advance rfl rfl rfl (by decide +kernel) ⟨by decide, by decide⟩) hW hS hB (hC.1.lay.k1).1 (pAt_8 (hC.1.lay.k1).2) rfl rfl hl.1 rfl (Nat.le_of_ble_eq_true rfl) dX10_tick_13 ⟨Nat.le_of_ble_eq_true rfl, Nat.le_of_ble_eq_true rfl⟩ (fun S2 H locs hp9 hW hS => ?_)
  obtain ⟨c9, f9, k9, b9, p9⟩ := hp9
  have hF9 := hF.tr f9
  clear hC hF
  have hC := k9
  have hF := hF9
  refine lv_iconst (v := 0) hx hb dX10_tick_16 (by decide) ?_
  refine lv_istore_n (lv' := [(2, .int 0), (0, .ref (y 0)), (1, .int x)]) hx hb dX10_tick_17 rfl hl (by decide) rfl (fun ls hl => ?_)
  have lp : ∀ (d i : Nat) (Sk : PS) (H : Heap) (locs : List Loc) (ls : Array Slot), i ≤ 6 → 6 - i < d → CR Sk y dE (mGone (kPs (iL g 1 6 (g.2.1 1 6 + x.toInt64 * (g.1 2 6).toInt64)) n (mClk g 6) (mClk (iL g 1 6 (g.2.1 1 6 + x.toInt64 * (g.1 2 6).toInt64)) 6) 8) x i) c9 → CF S Sk y → PW D cy B Sk H → va_S (Aw B) s.heap H locs → lv_has ls 3 [(0, .ref (y 0)), (1, .int x), (2, .int (nI i))] → W p l e ({ frames := 6, cells := 0, slots := 0, locals := 176 }) s m [.ref (y 0), .int x].toArray below meth c H locs 0 0 (MQ below (va_Qv (fun S2 => ∃ c2, CF S S2 y ∧ CR S2 y dE (mGone (kPs (iL g 1 6 (g.2.1 1 6 + x.toInt64 * (g.1 2 6).toInt64)) n (mClk g 6) (mClk (iL g 1 6 (g.2.1 1 6 + x.toInt64 * (g.1 2 6).toInt64)) 6) 8) x 6) c2 ∧ CanB c2 (kPs (iL g 1 6 (g.2.1 1 6 + x.toInt64 * (g.1 2 6).toInt64)) n (mClk g 6) (mClk (iL g 1 6 (g.2.1 1 6 + x.toInt64 * (g.1 2 6).toInt64)) 6) 8) n ∧ cP c2 = cP c0) (PreW D cy B s0) (Aw B)) [.ref (y 0), .int x].toArray s 0 0 (Aw B)) (F0 m 18 ls []) := by
    intro d
    induction d with
    | zero => intro i  Sk H locs ls _ hd; exact absurd hd (Nat.not_lt_zero _)
    | succ d ih =>
      intro i  Sk H locs ls hk hd hC hF hW hS hl
      refine lv_iload_n hx hb dX10_tick_18 rfl (lv_at hl 2 rfl) ?_
      refine lv_bipush (v := 6) hx hb dX10_tick_19 (by decide) ?_
      refine lv_icmp_ge (tgt := 43) hx hb dX10_tick_21 (by decide) (fun c_21 => ?_) (fun c_21 => ?_)
      · have q_21 : 6 ≤ i := (nI_leI (a := 6) (b := i) (by omega) (by omega)).mp c_21
        exact k_vret C hr hlk hW hS hB ⟨c9, hF, by rw [show i = 6 by omega] at hC; exact hC, b9, p9⟩ (Nat.le_refl _) (Nat.le_refl _) dX10_tick_43
      · have q_21 : ¬ (6 ≤ i) := fun z => c_21 ((nI_leI (a := 6) (b := i) (by omega) (by omega)).mpr z)
        refine lv_aload_n hx hb dX10_tick_24 rfl (lv_at hl 0 rfl) ?_
        refine g_1001 C hinX10 hW hC.1.lay.k0 hC.1.lay.r1001 l25 dX10_tick_25 ?_
        refine lv_iload_n hx hb dX10_tick_28 rfl (lv_at hl 2 rfl) ?_
        refine a_Gateload C hW (j := i) hC.1.lay.k3 hC.1.lay.n3 rfl (by omega) (by omega) (hC.1.lay.ga i (by omega)) dX10_tick_29 ?_
        refine g_300 C hinX3 hW (hC.1.lay.gk i (by omega)) (hC.1.lay.r300 i (by omega)) l119 dX10_tick_30 ?_
        refine lv_iload_n hx hb dX10_tick_33 rfl (lv_at hl 1 rfl) ?_
        refine k_callVv (As := [.int x]) (rest := []) C hml (c_X9_advance (hC.1.lay.tk i (by omega))) (cwV 1 hts gX10_tick_X9_advance rfl rfl rfl (by decide +kernel) ⟨by decide, by decide⟩) hW hS hB ((hC.1.lay.tk i (by omega))).1 (pAt_9 ((hC.1.lay.tk i (by omega))).2) rfl rfl hl.1 rfl (Nat.le_of_ble_eq_true rfl) dX10_tick_34 ⟨Nat.le_of_ble_eq_true rfl, Nat.le_of_ble_eq_true rfl⟩ (fun S3 H locs hp9 hW hS => ?_)
        have hF9 : CF S S3 y := by rw [hp9]; exact hF.sJ (hC.1.lay.tk i (by omega)) (by decide)
        have hC9 : CR S3 y dE (mGone (kPs (iL g 1 6 (g.2.1 1 6 + x.toInt64 * (g.1 2 6).toInt64)) n (mClk g 6) (mClk (iL g 1 6 (g.2.1 1 6 + x.toInt64 * (g.1 2 6).toInt64)) 6) 8) x (i + 1)) c9 := by rw [hp9, hC.1.t0 i (by omega), hC.1.t1 i (by omega)]; exact hC.wt0
        clear hC hF
        have hC := hC9
        have hF := hF9
        refine lv_iinc (v := nI (i + 1)) (lv' := [(2, .int (nI (i + 1))), (0, .ref (y 0)), (1, .int x)]) hx hb dX10_tick_37 hl (k := 2) rfl (nI_add i 1) (by decide) rfl (fun ls hl => ?_)
        refine lv_goto (tgt := 18) hx hb dX10_tick_40 (by decide) ?_
        exact ih (i + 1)  _ _ _ ls (by omega) (by omega) hC hF hW hS (lv_sub hl [1, 2, 0] rfl)
  exact lp (6 - 0 + 1) 0  _ _ _ ls (by omega) (by omega) hC hF hW hS (lv_sub hl [1, 2, 0] rfl)
set_option maxRecDepth 100000 in
set_option maxHeartbeats 1000000 in
theorem c_X10_restart {l : Launch} {D : va_G} {cy : Nat → ClassId} {B : Nat} {s0 : State} {S : PS} {y : Nat → Nat} {dE mi : Nat} {g : MS} {c0 : CS} {gt n : Nat} (hC : CR S y dE g c0) (hE : EnvC dE mi B s0) (hg : gt < 6) (hn3 : n ≤ 300) (hH : CanH c0 g n) : KI l yX10_restart wsX10_restart ({ frames := 3, cells := 0, slots := 0, locals := 64 }) D cy B s0 [.ref (y 0), .int (nI gt)] S (fun r S2 => ∃ c2, CF S S2 y ∧ CR S2 y dE (mRsG g n gt) c2 ∧ CanH c2 (mRsG g n gt) n ∧ cQl c2 = cQl c0 ∧ cE c2 = cE c0 ∧ r = (mRsG g n gt).1 20 gt) 0 0 := by
  refine k_body (own := RX10) (cc := cX10_restart) (maxL := 2) (ret := (some .int)) rfl (by decide) rfl (Nat.le_of_ble_eq_true rfl) ?_
  intro p e s m below meth c C hml hr hlk hnm hB hW ls hl
  obtain ⟨hx, hb, hts, hown, hK, hEn⟩ := id C
  have hS : va_S (Aw B) s.heap s.heap [] := va_S.rf
  have hinX10 : ∀ w ∈ wsX100, w ∈ wsX10_restart := by decide +kernel
  have l25 : Cond.fieldLink RX10 25 "LeaseGates" "spenders" "[LLeaseGates$Gate;" ∈ wsX10_restart := by decide +kernel
  have hl : lv_has ls 2 [(0, .ref (y 0)), (1, .int (nI gt))] := hl
  have hF : CF S S y := CF.rf
  refine lv_iload_n hx hb dX10_restart_0 rfl (lv_at hl 1 rfl) ?_
  refine k_callSv (As := [.int (nI gt)]) (rest := []) C hml (c_X10_requireGate (rgG hg)) (va_cwS 1 hts gX10_restart_X10_requireGate rfl rfl rfl (by decide +kernel) ⟨by decide, by decide⟩) hW hS hB rfl hl.1 rfl (Nat.le_of_ble_eq_true rfl) dX10_restart_1 ⟨Nat.le_of_ble_eq_true rfl, Nat.le_of_ble_eq_true rfl⟩ (fun S1 H locs hp9 hW hS => ?_)
  rw [hp9] at hW
  refine lv_aload_n hx hb dX10_restart_4 rfl (lv_at hl 0 rfl) ?_
  refine g_1001 C hinX10 hW hC.1.lay.k0 hC.1.lay.r1001 l25 dX10_restart_5 ?_
  refine lv_iload_n hx hb dX10_restart_8 rfl (lv_at hl 1 rfl) ?_
  refine a_Gateload C hW (j := gt) hC.1.lay.k3 hC.1.lay.n3 rfl (by omega) (by omega) (hC.1.lay.ga gt (by omega)) dX10_restart_9 ?_
  refine k_callVi (As := []) (rest := []) C hml (c_X3_startAnew hC hE hg hn3 hH) (cwV 0 hts gX10_restart_X3_startAnew rfl rfl rfl (by decide +kernel) ⟨by decide, by decide⟩) hW hS hB ((hC.1.lay.gk gt (by omega))).1 (pAt_3 ((hC.1.lay.gk gt (by omega))).2) rfl rfl hl.1 rfl (Nat.le_of_ble_eq_true rfl) dX10_restart_10 ⟨Nat.le_of_ble_eq_true rfl, Nat.le_of_ble_eq_true rfl⟩ (fun r9 S2 H locs hp9 hW hS => ?_)
  obtain ⟨c9, f9, k9, h9, q9, e8, e9⟩ := hp9
  subst e9
  exact k_iret C hr hlk hW hS hB ⟨c9, f9, k9, h9, q9, e8, rfl⟩ (Nat.le_refl _) (Nat.le_refl _) dX10_restart_13
set_option maxRecDepth 100000 in
set_option maxHeartbeats 1000000 in
theorem c_X10_root {l : Launch} {D : va_G} {cy : Nat → ClassId} {B : Nat} {s0 : State} {S : PS} {y : Nat → Nat} {dE mi : Nat} {g : MS} {c0 : CS} {k n w9 : Nat} (hC : CR S y dE g c0) (hE : EnvC dE mi B s0) (hk8 : k < 8) (hw4 : w9 < 4) (hCB : CanB c0 g n) (hI : BInv g n) : KI l yX10_root wsX10_root ({ frames := 2, cells := 0, slots := 0, locals := 42 }) D cy B s0 [.ref (y 0), .int (nI k), .int (nI w9)] S (fun r S2 => S2 = S ∧ r = mRootW g n k (nI w9)) 0 0 := by
  refine k_body (own := RX10) (cc := cX10_root) (maxL := 4) (ret := (some .int)) rfl (by decide) rfl (Nat.le_of_ble_eq_true rfl) ?_
  intro p e s m below meth c C hml hr hlk hnm hB hW ls hl
  obtain ⟨hx, hb, hts, hown, hK, hEn⟩ := id C
  have hS : va_S (Aw B) s.heap s.heap [] := va_S.rf
  have hinX1 : ∀ w ∈ wsX10, w ∈ wsX10_root := by decide +kernel
  have hinX10 : ∀ w ∈ wsX100, w ∈ wsX10_root := by decide +kernel
  have hinX8 : ∀ w ∈ wsX80, w ∈ wsX10_root := by decide +kernel
  have l10 : Cond.fieldLink RX10 10 "LeaseGates" "lender" "LLeaseGates$Root;" ∈ wsX10_root := by decide +kernel
  have l41 : Cond.fieldLink RX10 41 "LeaseGates$Root" "buckets" "[LLeaseGates$Bucket;" ∈ wsX10_root := by decide +kernel
  have l80 : Cond.fieldLink RX10 80 "LeaseGates$Bucket" "spentAtGates" "I" ∈ wsX10_root := by decide +kernel
  have l128 : Cond.fieldLink RX10 128 "LeaseGates$Bucket" "level" "I" ∈ wsX10_root := by decide +kernel
  have l131 : Cond.fieldLink RX10 131 "LeaseGates$Bucket" "lent" "I" ∈ wsX10_root := by decide +kernel
  have l134 : Cond.fieldLink RX10 134 "LeaseGates$Bucket" "loans" "Ljava/util/ArrayList;" ∈ wsX10_root := by decide +kernel
  have hl : lv_has ls 4 [(0, .ref (y 0)), (1, .int (nI k)), (2, .int (nI w9))] := hl
  have hF : CF S S y := CF.rf
  refine lv_iload_n hx hb dX10_root_0 rfl (lv_at hl 1 rfl) ?_
  refine k_callSv (As := [.int (nI k)]) (rest := []) C hml (c_X10_requireKey (rgK hk8)) (va_cwS 1 hts gX10_root_X10_requireKey rfl rfl rfl (by decide +kernel) ⟨by decide, by decide⟩) hW hS hB rfl hl.1 rfl (Nat.le_of_ble_eq_true rfl) dX10_root_1 ⟨Nat.le_of_ble_eq_true rfl, Nat.le_of_ble_eq_true rfl⟩ (fun S1 H locs hp9 hW hS => ?_)
  rw [hp9] at hW
  refine lv_iload_n hx hb dX10_root_4 rfl (lv_at hl 2 rfl) ?_
  refine lv_iconst (v := 0) hx hb dX10_root_5 (by decide) ?_
  refine lv_iconst (v := 3) hx hb dX10_root_6 (by decide) ?_
  refine k_callSv (As := [.int (nI w9), .int 0, .int 3]) (rest := []) C hml (c_X10_requireWithin (v := nI w9) (lo := 0) (hi := 3) (rg3 hw4)) (va_cwS 3 hts gX10_root_X10_requireWithin rfl rfl rfl (by decide +kernel) ⟨by decide, by decide⟩) hW hS hB rfl hl.1 rfl (Nat.le_of_ble_eq_true rfl) dX10_root_7 ⟨Nat.le_of_ble_eq_true rfl, Nat.le_of_ble_eq_true rfl⟩ (fun S2 H locs hp9 hW hS => ?_)
  rw [hp9] at hW
  refine lv_aload_n hx hb dX10_root_10 rfl (lv_at hl 0 rfl) ?_
  refine g_1000 C hinX10 hW hC.1.lay.k0 hC.1.lay.r1000 l10 dX10_root_11 ?_
  refine g_801 C hinX8 hW hC.1.lay.k1 hC.1.lay.r801 l41 dX10_root_14 ?_
  refine lv_iload_n hx hb dX10_root_17 rfl (lv_at hl 1 rfl) ?_
  refine a_Bucketload C hW (j := k) hC.1.lay.k5 hC.1.lay.n5 rfl (by omega) (by omega) (hC.1.lay.ba k (by omega)) dX10_root_18 ?_
  refine lv_astore_n (lv' := [(3, .ref (y (40 + k))), (0, .ref (y 0)), (1, .int (nI k)), (2, .int (nI w9))]) hx hb dX10_root_19 rfl hl (by decide) rfl (fun ls hl => ?_)
  refine lv_iload_n hx hb dX10_root_20 rfl (lv_at hl 3 rfl) ?_
  rcases (show w9 = 0 ∨ w9 = 1 ∨ w9 = 2 ∨ w9 = 3 by omega) with rfl | rfl | rfl | rfl
  · refine lv_tableIn (tgt := 48) (off := 27) hx hb dX10_root_21 (by decide) (by decide) (by decide) (by decide) ?_
    refine lv_aload_n hx hb dX10_root_48 rfl (lv_at hl 0 rfl) ?_
    refine g_105 C hinX1 hW (hC.1.lay.bk k (by omega)) l80 dX10_root_49 ?_
    refine top_i (show fI S 105 (y (40 + k)) = g.1 6 k from hC.1.b5 k (by omega)) ?_
    exact k_iret C hr hlk hW hS hB ⟨rfl, rfl⟩ (Nat.le_refl _) (Nat.le_refl _) dX10_root_52
  · refine lv_tableIn (tgt := 53) (off := 32) hx hb dX10_root_21 (by decide) (by decide) (by decide) (by decide) ?_
    refine lv_aload_n hx hb dX10_root_53 rfl (lv_at hl 0 rfl) ?_
    refine g_103 C hinX1 hW (hC.1.lay.bk k (by omega)) l128 dX10_root_54 ?_
    refine top_i (show fI S 103 (y (40 + k)) = (g.2.1 5 k).toInt32 from hC.1.b3 k (by omega)) ?_
    exact k_iret C hr hlk hW hS hB ⟨rfl, rfl⟩ (Nat.le_refl _) (Nat.le_refl _) dX10_root_57
  · refine lv_tableIn (tgt := 58) (off := 37) hx hb dX10_root_21 (by decide) (by decide) (by decide) (by decide) ?_
    refine lv_aload_n hx hb dX10_root_58 rfl (lv_at hl 0 rfl) ?_
    refine g_104 C hinX1 hW (hC.1.lay.bk k (by omega)) l131 dX10_root_59 ?_
    refine top_i (show fI S 104 (y (40 + k)) = cE c0 k from hC.1.b4 k (by omega)) ?_
    exact k_iret C hr hlk hW hS hB ⟨rfl, (hCB k hk8).2⟩ (Nat.le_refl _) (Nat.le_refl _) dX10_root_62
  · refine lv_tableOut (tgt := 63) hx hb dX10_root_21 (Or.inr (by decide)) (by decide) ?_
    refine lv_aload_n hx hb dX10_root_63 rfl (lv_at hl 0 rfl) ?_
    refine g_100 C hinX1 hW (hC.1.lay.bk k (by omega)) (hC.1.lay.r100 k (by omega)) l134 dX10_root_64 ?_
    refine k_callVi (As := []) (rest := []) C hml (c_Jx4a65c_size_8abf5 (hC.2.bl k hk8).1) (cwV 0 hts gX10_root_Jx4a65c_size_8abf5 rfl rfl rfl (by decide +kernel) ⟨by decide, by decide⟩) hW hS hB ((hC.2.bl k (by omega)).1).1 (pAt_12 ((hC.2.bl k (by omega)).1).2) rfl rfl hl.1 rfl (Nat.le_of_ble_eq_true rfl) dX10_root_67 ⟨Nat.le_of_ble_eq_true rfl, Nat.le_of_ble_eq_true rfl⟩ (fun r9 S3 H locs hp9 hW hS => ?_)
    obtain ⟨e8, e9⟩ := hp9
    rw [e8] at hW
    replace e9 := e9.trans ((hC.2.bl k hk8).2.2.1.trans (congrArg nI (List.length_map _)))
    exact k_iret C hr hlk hW hS hB ⟨rfl, by rw [e9, (hCB k hk8).1]; exact (cnt_ls (fun x hx => (hI.2 x hx).1.1)).symm⟩ (Nat.le_refl _) (Nat.le_refl _) dX10_root_70
set_option maxRecDepth 100000 in
set_option maxHeartbeats 1000000 in
theorem c_X10_gate {l : Launch} {D : va_G} {cy : Nat → ClassId} {B : Nat} {s0 : State} {S : PS} {y : Nat → Nat} {dE mi : Nat} {g : MS} {c0 : CS} {gt kk n w9 : Nat} (hC : CR S y dE g c0) (hE : EnvC dE mi B s0) (hg : gt < 6) (hk8 : kk < 8) (hw7 : w9 < 7) (hL : cP c0 (8 * gt + kk) = hs g gt kk n) : KI l yX10_gate wsX10_gate ({ frames := 4, cells := 0, slots := 0, locals := 88 }) D cy B s0 [.ref (y 0), .int (nI gt), .int (nI kk), .int (nI w9)] S (fun r S2 => S2 = S ∧ r = mGateW g n gt kk w9) 0 0 := by
  refine k_body (own := RX10) (cc := cX10_gate) (maxL := 5) (ret := (some .int)) rfl (by decide) rfl (Nat.le_of_ble_eq_true rfl) ?_
  intro p e s m below meth c C hml hr hlk hnm hB hW ls hl
  obtain ⟨hx, hb, hts, hown, hK, hEn⟩ := id C
  have hS : va_S (Aw B) s.heap s.heap [] := va_S.rf
  have hinX10 : ∀ w ∈ wsX100, w ∈ wsX10_gate := by decide +kernel
  have hinX2 : ∀ w ∈ wsX20, w ∈ wsX10_gate := by decide +kernel
  have hinX3 : ∀ w ∈ wsX30, w ∈ wsX10_gate := by decide +kernel
  have l25 : Cond.fieldLink RX10 25 "LeaseGates" "spenders" "[LLeaseGates$Gate;" ∈ wsX10_gate := by decide +kernel
  have l119 : Cond.fieldLink RX10 119 "LeaseGates$Gate" "ticker" "LLeaseGates$Ticker;" ∈ wsX10_gate := by decide +kernel
  have l143 : Cond.fieldLink RX10 143 "LeaseGates$Gate" "desks" "[LLeaseGates$Desk;" ∈ wsX10_gate := by decide +kernel
  have l156 : Cond.fieldLink RX10 156 "LeaseGates$Desk" "holds" "Ljava/util/ArrayList;" ∈ wsX10_gate := by decide +kernel
  have l159 : Cond.fieldLink RX10 159 "LeaseGates$Desk" "demand" "I" ∈ wsX10_gate := by decide +kernel
  have l162 : Cond.fieldLink RX10 162 "LeaseGates$Desk" "use" "I" ∈ wsX10_gate := by decide +kernel
  have l165 : Cond.fieldLink RX10 165 "LeaseGates$Desk" "asks" "I" ∈ wsX10_gate := by decide +kernel
  have l168 : Cond.fieldLink RX10 168 "LeaseGates$Desk" "open" "Z" ∈ wsX10_gate := by decide +kernel
  have l172 : Cond.fieldLink RX10 172 "LeaseGates$Desk" "refusals" "I" ∈ wsX10_gate := by decide +kernel
  have hl : lv_has ls 5 [(0, .ref (y 0)), (1, .int (nI gt)), (2, .int (nI kk)), (3, .int (nI w9))] := hl
  have hF : CF S S y := CF.rf
  refine lv_iload_n hx hb dX10_gate_0 rfl (lv_at hl 1 rfl) ?_
  refine k_callSv (As := [.int (nI gt)]) (rest := []) C hml (c_X10_requireGate (rgG hg)) (va_cwS 1 hts gX10_gate_X10_requireGate rfl rfl rfl (by decide +kernel) ⟨by decide, by decide⟩) hW hS hB rfl hl.1 rfl (Nat.le_of_ble_eq_true rfl) dX10_gate_1 ⟨Nat.le_of_ble_eq_true rfl, Nat.le_of_ble_eq_true rfl⟩ (fun S1 H locs hp9 hW hS => ?_)
  rw [hp9] at hW
  refine lv_iload_n hx hb dX10_gate_4 rfl (lv_at hl 2 rfl) ?_
  refine k_callSv (As := [.int (nI kk)]) (rest := []) C hml (c_X10_requireKey (rgK hk8)) (va_cwS 1 hts gX10_gate_X10_requireKey rfl rfl rfl (by decide +kernel) ⟨by decide, by decide⟩) hW hS hB rfl hl.1 rfl (Nat.le_of_ble_eq_true rfl) dX10_gate_5 ⟨Nat.le_of_ble_eq_true rfl, Nat.le_of_ble_eq_true rfl⟩ (fun S2 H locs hp9 hW hS => ?_)
  rw [hp9] at hW
  refine lv_iload_n hx hb dX10_gate_8 rfl (lv_at hl 3 rfl) ?_
  refine lv_iconst (v := 0) hx hb dX10_gate_9 (by decide) ?_
  refine lv_bipush (v := 6) hx hb dX10_gate_10 (by decide) ?_
  refine k_callSv (As := [.int (nI w9), .int 0, .int 6]) (rest := []) C hml (c_X10_requireWithin (v := nI w9) (lo := 0) (hi := 6) (rg6 hw7)) (va_cwS 3 hts gX10_gate_X10_requireWithin rfl rfl rfl (by decide +kernel) ⟨by decide, by decide⟩) hW hS hB rfl hl.1 rfl (Nat.le_of_ble_eq_true rfl) dX10_gate_12 ⟨Nat.le_of_ble_eq_true rfl, Nat.le_of_ble_eq_true rfl⟩ (fun S3 H locs hp9 hW hS => ?_)
  rw [hp9] at hW
  refine lv_aload_n hx hb dX10_gate_15 rfl (lv_at hl 0 rfl) ?_
  refine g_1001 C hinX10 hW hC.1.lay.k0 hC.1.lay.r1001 l25 dX10_gate_16 ?_
  refine lv_iload_n hx hb dX10_gate_19 rfl (lv_at hl 1 rfl) ?_
  refine a_Gateload C hW (j := gt) hC.1.lay.k3 hC.1.lay.n3 rfl (by omega) (by omega) (hC.1.lay.ga gt (by omega)) dX10_gate_20 ?_
  refine g_301 C hinX3 hW (hC.1.lay.gk gt (by omega)) (hC.1.lay.r301 gt (by omega)) l143 dX10_gate_21 ?_
  refine lv_iload_n hx hb dX10_gate_24 rfl (lv_at hl 2 rfl) ?_
  refine a_Deskload C hW (j := kk) (hC.1.lay.dk gt (by omega)) (hC.1.lay.dn gt (by omega)) rfl (by omega) (by omega) (hC.1.lay.da gt kk (by omega) (by omega)) dX10_gate_25 ?_
  refine lv_astore (lv' := [(4, .ref (y (100 + (8 * gt + kk)))), (0, .ref (y 0)), (1, .int (nI gt)), (2, .int (nI kk)), (3, .int (nI w9))]) hx hb dX10_gate_26 hl (by decide) rfl (fun ls hl => ?_)
  refine lv_iload_n hx hb dX10_gate_28 rfl (lv_at hl 4 rfl) ?_
  rcases (show w9 = 0 ∨ w9 = 1 ∨ w9 = 2 ∨ w9 = 3 ∨ w9 = 4 ∨ w9 = 5 ∨ w9 = 6 by omega) with rfl | rfl | rfl | rfl | rfl | rfl | rfl
  · refine lv_tableIn (tgt := 68) (off := 39) hx hb dX10_gate_29 (by decide) (by decide) (by decide) (by decide) ?_
    refine lv_aload hx hb dX10_gate_68 (lv_at hl 0 rfl) ?_
    refine lv_aload_n hx hb dX10_gate_70 rfl (lv_at hl 1 rfl) ?_
    refine g_1001 C hinX10 hW hC.1.lay.k0 hC.1.lay.r1001 l25 dX10_gate_71 ?_
    refine lv_iload_n hx hb dX10_gate_74 rfl (lv_at hl 2 rfl) ?_
    refine a_Gateload C hW (j := gt) hC.1.lay.k3 hC.1.lay.n3 rfl (by omega) (by omega) (hC.1.lay.ga gt (by omega)) dX10_gate_75 ?_
    refine g_300 C hinX3 hW (hC.1.lay.gk gt (by omega)) (hC.1.lay.r300 gt (by omega)) l119 dX10_gate_76 ?_
    refine k_callVi (As := []) (rest := [.ref (y (100 + (8 * gt + kk)))]) C hml (c_X9_now (hC.1.lay.tk gt (by omega))) (cwV 0 hts gX10_gate_X9_now rfl rfl rfl (by decide +kernel) ⟨by decide, by decide⟩) hW hS hB ((hC.1.lay.tk gt (by omega))).1 (pAt_9 ((hC.1.lay.tk gt (by omega))).2) rfl rfl hl.1 rfl (Nat.le_of_ble_eq_true rfl) dX10_gate_79 ⟨Nat.le_of_ble_eq_true rfl, Nat.le_of_ble_eq_true rfl⟩ (fun r9 S4 H locs hp9 hW hS => ?_)
    obtain ⟨e8, e9⟩ := hp9
    rw [e8] at hW
    rw [hC.1.t0 gt (by omega)] at e9
    replace e9 : r9 = mClk g gt := e9
    subst e9
    refine k_callVi (As := [.int (mClk g gt)]) (rest := []) C hml (c_X2_liveTokens hC hE hg hk8 hL) (cwV 1 hts gX10_gate_X2_liveTokens rfl rfl rfl (by decide +kernel) ⟨by decide, by decide⟩) hW hS hB ((hC.1.lay.ek (8 * gt + kk) (by omega))).1 (pAt_2 ((hC.1.lay.ek (8 * gt + kk) (by omega))).2) rfl rfl hl.1 rfl (Nat.le_of_ble_eq_true rfl) dX10_gate_82 ⟨Nat.le_of_ble_eq_true rfl, Nat.le_of_ble_eq_true rfl⟩ (fun r9 S5 H locs hp9 hW hS => ?_)
    obtain ⟨e8, e9⟩ := hp9
    rw [e8] at hW
    exact k_iret C hr hlk hW hS hB ⟨rfl, by rw [e9]; exact lSum_hs g gt kk n⟩ (Nat.le_refl _) (Nat.le_refl _) dX10_gate_85
  · refine lv_tableIn (tgt := 86) (off := 57) hx hb dX10_gate_29 (by decide) (by decide) (by decide) (by decide) ?_
    refine lv_aload hx hb dX10_gate_86 (lv_at hl 0 rfl) ?_
    refine g_202 C hinX2 hW (hC.1.lay.ek (8 * gt + kk) (by omega)) (hC.1.lay.r202 (8 * gt + kk) (by omega)) l156 dX10_gate_88 ?_
    refine k_callVi (As := []) (rest := []) C hml (c_Jx4a65c_size_8abf5 (hC.2.hl (8 * gt + kk) (by omega)).1) (cwV 0 hts gX10_gate_Jx4a65c_size_8abf5 rfl rfl rfl (by decide +kernel) ⟨by decide, by decide⟩) hW hS hB ((hC.2.hl (8 * gt + kk) (by omega)).1).1 (pAt_12 ((hC.2.hl (8 * gt + kk) (by omega)).1).2) rfl rfl hl.1 rfl (Nat.le_of_ble_eq_true rfl) dX10_gate_91 ⟨Nat.le_of_ble_eq_true rfl, Nat.le_of_ble_eq_true rfl⟩ (fun r9 S6 H locs hp9 hW hS => ?_)
    obtain ⟨e8, e9⟩ := hp9
    rw [e8] at hW
    replace e9 := e9.trans ((hC.2.hl (8 * gt + kk) (by omega)).2.2.1.trans (congrArg nI (List.length_map _)))
    exact k_iret C hr hlk hW hS hB ⟨rfl, by rw [e9, hL]; exact (cntH_hs g gt kk n).symm⟩ (Nat.le_refl _) (Nat.le_refl _) dX10_gate_94
  · refine lv_tableIn (tgt := 95) (off := 66) hx hb dX10_gate_29 (by decide) (by decide) (by decide) (by decide) ?_
    refine lv_aload hx hb dX10_gate_95 (lv_at hl 0 rfl) ?_
    refine g_203 C hinX2 hW (hC.1.lay.ek (8 * gt + kk) (by omega)) l159 dX10_gate_97 ?_
    refine top_i (show fI S 203 (y (100 + (8 * gt + kk))) = g.1 21 (8 * gt + kk) from hC.1.d3 (8 * gt + kk) (by omega)) ?_
    exact k_iret C hr hlk hW hS hB ⟨rfl, rfl⟩ (Nat.le_refl _) (Nat.le_refl _) dX10_gate_100
  · refine lv_tableIn (tgt := 101) (off := 72) hx hb dX10_gate_29 (by decide) (by decide) (by decide) (by decide) ?_
    refine lv_aload hx hb dX10_gate_101 (lv_at hl 0 rfl) ?_
    refine g_204 C hinX2 hW (hC.1.lay.ek (8 * gt + kk) (by omega)) l162 dX10_gate_103 ?_
    refine top_i (show fI S 204 (y (100 + (8 * gt + kk))) = g.1 22 (8 * gt + kk) from hC.1.d4 (8 * gt + kk) (by omega)) ?_
    exact k_iret C hr hlk hW hS hB ⟨rfl, rfl⟩ (Nat.le_refl _) (Nat.le_refl _) dX10_gate_106
  · refine lv_tableIn (tgt := 107) (off := 78) hx hb dX10_gate_29 (by decide) (by decide) (by decide) (by decide) ?_
    refine lv_aload hx hb dX10_gate_107 (lv_at hl 0 rfl) ?_
    refine g_205 C hinX2 hW (hC.1.lay.ek (8 * gt + kk) (by omega)) l165 dX10_gate_109 ?_
    refine top_i (show fI S 205 (y (100 + (8 * gt + kk))) = g.1 23 (8 * gt + kk) from hC.1.d5 (8 * gt + kk) (by omega)) ?_
    exact k_iret C hr hlk hW hS hB ⟨rfl, rfl⟩ (Nat.le_refl _) (Nat.le_refl _) dX10_gate_112
  · refine lv_tableIn (tgt := 113) (off := 84) hx hb dX10_gate_29 (by decide) (by decide) (by decide) (by decide) ?_
    refine lv_aload hx hb dX10_gate_113 (lv_at hl 0 rfl) ?_
    refine g_206 C hinX2 hW (hC.1.lay.ek (8 * gt + kk) (by omega)) l168 dX10_gate_115 ?_
    refine top_i (show fI S 206 (y (100 + (8 * gt + kk))) = g.1 24 (8 * gt + kk) from hC.1.d6 (8 * gt + kk) (by omega)) ?_
    refine lv_if_eq (tgt := 125) hx hb dX10_gate_118 (by decide) (fun c_118 => ?_) (fun c_118 => ?_)
    · refine lv_iconst (v := 0) hx hb dX10_gate_125 (by decide) ?_
      exact k_iret C hr hlk hW hS hB ⟨rfl, (if_pos c_118).symm⟩ (Nat.le_refl _) (Nat.le_refl _) dX10_gate_126
    · refine lv_iconst (v := 1) hx hb dX10_gate_121 (by decide) ?_
      refine lv_goto (tgt := 126) hx hb dX10_gate_122 (by decide) ?_
      exact k_iret C hr hlk hW hS hB ⟨rfl, (if_neg c_118).symm⟩ (Nat.le_refl _) (Nat.le_refl _) dX10_gate_126
  · refine lv_tableOut (tgt := 127) hx hb dX10_gate_29 (Or.inr (by decide)) (by decide) ?_
    refine lv_aload hx hb dX10_gate_127 (lv_at hl 0 rfl) ?_
    refine g_208 C hinX2 hW (hC.1.lay.ek (8 * gt + kk) (by omega)) l172 dX10_gate_129 ?_
    refine top_i (show fI S 208 (y (100 + (8 * gt + kk))) = g.1 26 (8 * gt + kk) from hC.1.d8 (8 * gt + kk) (by omega)) ?_
    exact k_iret C hr hlk hW hS hB ⟨rfl, rfl⟩ (Nat.le_refl _) (Nat.le_refl _) dX10_gate_132
set_option maxRecDepth 100000 in
set_option maxHeartbeats 1000000 in
theorem c_X10_message {l : Launch} {D : va_G} {cy : Nat → ClassId} {B : Nat} {s0 : State} {S : PS} {y : Nat → Nat} {dE mi : Nat} {g : MS} {c0 : CS} {q w9 b : Nat} {x0 x1 x2 x3 x4 x5 x6 x7 : Int32} (hC : CR S y dE g c0) (hE : EnvC dE mi B s0) (hm : MsgOk g) (hq : q < mqN g) (hz : aQ S (y 4) q = some b) (hw7 : w9 < 7) (hM : MsgAt S b x0 x1 x2 x3 x4 x5 x6 x7) : KI l yX10_message wsX10_message ({ frames := 2, cells := 0, slots := 0, locals := 43 }) D cy B s0 [.ref (y 0), .int (nI q), .int (nI w9)] S (fun r S2 => S2 = S ∧ r = (if w9 = 0 then x0 else if w9 = 1 then x1 else if w9 = 2 then x2 else if w9 = 3 then x4 else if w9 = 4 then x3 else if w9 = 5 then x5 else x6)) 0 0 := by
  refine k_body (own := RX10) (cc := cX10_message) (maxL := 4) (ret := (some .int)) rfl (by decide) rfl (Nat.le_of_ble_eq_true rfl) ?_
  intro p e s m below meth c C hml hr hlk hnm hB hW ls hl
  obtain ⟨hx, hb, hts, hown, hK, hEn⟩ := id C
  have hS : va_S (Aw B) s.heap s.heap [] := va_S.rf
  have hinX6 : ∀ w ∈ wsX60, w ∈ wsX10_message := by decide +kernel
  have l94 : Cond.fieldLink RX10 94 "LeaseGates$Message" "kind" "I" ∈ wsX10_message := by decide +kernel
  have l107 : Cond.fieldLink RX10 107 "LeaseGates$Message" "gate" "I" ∈ wsX10_message := by decide +kernel
  have l175 : Cond.fieldLink RX10 175 "LeaseGates$Message" "key" "I" ∈ wsX10_message := by decide +kernel
  have l178 : Cond.fieldLink RX10 178 "LeaseGates$Message" "tokens" "I" ∈ wsX10_message := by decide +kernel
  have l181 : Cond.fieldLink RX10 181 "LeaseGates$Message" "birth" "I" ∈ wsX10_message := by decide +kernel
  have l184 : Cond.fieldLink RX10 184 "LeaseGates$Message" "count" "I" ∈ wsX10_message := by decide +kernel
  have l185 : Cond.fieldLink RX10 185 "LeaseGates$Message" "loan" "I" ∈ wsX10_message := by decide +kernel
  have hl : lv_has ls 4 [(0, .ref (y 0)), (1, .int (nI q)), (2, .int (nI w9))] := hl
  have hF : CF S S y := CF.rf
  refine lv_aload_n hx hb dX10_message_0 rfl (lv_at hl 0 rfl) ?_
  refine lv_iload_n hx hb dX10_message_1 rfl (lv_at hl 1 rfl) ?_
  refine k_callVq (As := [.int (nI q)]) (rest := []) C hml (c_X10_requireMessage hC hm hq hz) (cwV 1 hts gX10_message_X10_requireMessage rfl rfl rfl (by decide +kernel) ⟨by decide, by decide⟩) hW hS hB (hC.1.lay.k0).1 (pAt_10 (hC.1.lay.k0).2) rfl rfl hl.1 rfl (Nat.le_of_ble_eq_true rfl) dX10_message_2 ⟨Nat.le_of_ble_eq_true rfl, Nat.le_of_ble_eq_true rfl⟩ (fun r9 S1 H locs hp9 hW hS => ?_)
  obtain ⟨e8, e9⟩ := hp9
  rw [e8] at hW
  subst e9
  refine lv_astore_n (lv' := [(3, .ref b), (0, .ref (y 0)), (1, .int (nI q)), (2, .int (nI w9))]) hx hb dX10_message_5 rfl hl (by decide) rfl (fun ls hl => ?_)
  refine lv_iload_n hx hb dX10_message_6 rfl (lv_at hl 3 rfl) ?_
  refine lv_iconst (v := 0) hx hb dX10_message_7 (by decide) ?_
  refine lv_bipush (v := 6) hx hb dX10_message_8 (by decide) ?_
  refine k_callSv (As := [.int (nI w9), .int 0, .int 6]) (rest := []) C hml (c_X10_requireWithin (v := nI w9) (lo := 0) (hi := 6) (rg6 hw7)) (va_cwS 3 hts gX10_message_X10_requireWithin rfl rfl rfl (by decide +kernel) ⟨by decide, by decide⟩) hW hS hB rfl hl.1 rfl (Nat.le_of_ble_eq_true rfl) dX10_message_10 ⟨Nat.le_of_ble_eq_true rfl, Nat.le_of_ble_eq_true rfl⟩ (fun S2 H locs hp9 hW hS => ?_)
  rw [hp9] at hW
  refine lv_iload_n hx hb dX10_message_13 rfl (lv_at hl 3 rfl) ?_
  rcases (show w9 = 0 ∨ w9 = 1 ∨ w9 = 2 ∨ w9 = 3 ∨ w9 = 4 ∨ w9 = 5 ∨ w9 = 6 by omega) with rfl | rfl | rfl | rfl | rfl | rfl | rfl
  · refine lv_tableIn (tgt := 52) (off := 38) hx hb dX10_message_14 (by decide) (by decide) (by decide) (by decide) ?_
    refine lv_aload_n hx hb dX10_message_52 rfl (lv_at hl 0 rfl) ?_
    refine g_600 C hinX6 hW hM.1 l94 dX10_message_53 ?_
    refine top_i (show fI S 600 b = x0 from hM.2.1) ?_
    exact k_iret C hr hlk hW hS hB ⟨rfl, rfl⟩ (Nat.le_refl _) (Nat.le_refl _) dX10_message_56
  · refine lv_tableIn (tgt := 57) (off := 43) hx hb dX10_message_14 (by decide) (by decide) (by decide) (by decide) ?_
    refine lv_aload_n hx hb dX10_message_57 rfl (lv_at hl 0 rfl) ?_
    refine g_601 C hinX6 hW hM.1 l107 dX10_message_58 ?_
    refine top_i (show fI S 601 b = x1 from hM.2.2.1) ?_
    exact k_iret C hr hlk hW hS hB ⟨rfl, rfl⟩ (Nat.le_refl _) (Nat.le_refl _) dX10_message_61
  · refine lv_tableIn (tgt := 62) (off := 48) hx hb dX10_message_14 (by decide) (by decide) (by decide) (by decide) ?_
    refine lv_aload_n hx hb dX10_message_62 rfl (lv_at hl 0 rfl) ?_
    refine g_602 C hinX6 hW hM.1 l175 dX10_message_63 ?_
    refine top_i (show fI S 602 b = x2 from hM.2.2.2.1) ?_
    exact k_iret C hr hlk hW hS hB ⟨rfl, rfl⟩ (Nat.le_refl _) (Nat.le_refl _) dX10_message_66
  · refine lv_tableIn (tgt := 67) (off := 53) hx hb dX10_message_14 (by decide) (by decide) (by decide) (by decide) ?_
    refine lv_aload_n hx hb dX10_message_67 rfl (lv_at hl 0 rfl) ?_
    refine g_604 C hinX6 hW hM.1 l178 dX10_message_68 ?_
    refine top_i (show fI S 604 b = x4 from hM.2.2.2.2.2.1) ?_
    exact k_iret C hr hlk hW hS hB ⟨rfl, rfl⟩ (Nat.le_refl _) (Nat.le_refl _) dX10_message_71
  · refine lv_tableIn (tgt := 72) (off := 58) hx hb dX10_message_14 (by decide) (by decide) (by decide) (by decide) ?_
    refine lv_aload_n hx hb dX10_message_72 rfl (lv_at hl 0 rfl) ?_
    refine g_603 C hinX6 hW hM.1 l181 dX10_message_73 ?_
    refine top_i (show fI S 603 b = x3 from hM.2.2.2.2.1) ?_
    exact k_iret C hr hlk hW hS hB ⟨rfl, rfl⟩ (Nat.le_refl _) (Nat.le_refl _) dX10_message_76
  · refine lv_tableIn (tgt := 77) (off := 63) hx hb dX10_message_14 (by decide) (by decide) (by decide) (by decide) ?_
    refine lv_aload_n hx hb dX10_message_77 rfl (lv_at hl 0 rfl) ?_
    refine g_605 C hinX6 hW hM.1 l184 dX10_message_78 ?_
    refine top_i (show fI S 605 b = x5 from hM.2.2.2.2.2.2.1) ?_
    exact k_iret C hr hlk hW hS hB ⟨rfl, rfl⟩ (Nat.le_refl _) (Nat.le_refl _) dX10_message_81
  · refine lv_tableOut (tgt := 82) hx hb dX10_message_14 (Or.inr (by decide)) (by decide) ?_
    refine lv_aload_n hx hb dX10_message_82 rfl (lv_at hl 0 rfl) ?_
    refine g_606 C hinX6 hW hM.1 l185 dX10_message_83 ?_
    refine top_i (show fI S 606 b = x6 from hM.2.2.2.2.2.2.2.1) ?_
    exact k_iret C hr hlk hW hS hB ⟨rfl, rfl⟩ (Nat.le_refl _) (Nat.le_refl _) dX10_message_86
set_option maxRecDepth 100000 in
set_option maxHeartbeats 1000000 in
theorem c_X10_sent {l : Launch} {D : va_G} {cy : Nat → ClassId} {B : Nat} {s0 : State} {S : PS} {y : Nat → Nat} {dE mi : Nat} {g : MS} {c0 : CS} (hC : CR S y dE g c0) (hE : EnvC dE mi B s0) : KI l yX10_sent wsX10_sent ({ frames := 0, cells := 0, slots := 0, locals := 0 }) D cy B s0 [.ref (y 0)] S (fun r S2 => S2 = S ∧ r = g.2.2 1131) 0 0 := by
  refine k_body (own := RX10) (cc := cX10_sent) (maxL := 1) (ret := (some .int)) rfl (by decide) rfl (Nat.le_of_ble_eq_true rfl) ?_
  intro p e s m below meth c C hml hr hlk hnm hB hW ls hl
  obtain ⟨hx, hb, hts, hown, hK, hEn⟩ := id C
  have hS : va_S (Aw B) s.heap s.heap [] := va_S.rf
  have hinX10 : ∀ w ∈ wsX100, w ∈ wsX10_sent := by decide +kernel
  have hinX7 : ∀ w ∈ wsX70, w ∈ wsX10_sent := by decide +kernel
  have l19 : Cond.fieldLink RX10 19 "LeaseGates" "post" "LLeaseGates$Post;" ∈ wsX10_sent := by decide +kernel
  have l83 : Cond.fieldLink RX10 83 "LeaseGates$Post" "count" "I" ∈ wsX10_sent := by decide +kernel
  have hl : lv_has ls 1 [(0, .ref (y 0))] := hl
  have hF : CF S S y := CF.rf
  refine lv_aload_n hx hb dX10_sent_0 rfl (lv_at hl 0 rfl) ?_
  refine g_1002 C hinX10 hW hC.1.lay.k0 hC.1.lay.r1002 l19 dX10_sent_1 ?_
  refine g_701 C hinX7 hW hC.1.lay.k2 l83 dX10_sent_4 ?_
  refine top_i (show fI S 701 (y 2) = g.2.2 1131 from hC.1.pc) ?_
  exact k_iret C hr hlk hW hS hB ⟨rfl, rfl⟩ (Nat.le_refl _) (Nat.le_refl _) dX10_sent_7
set_option maxRecDepth 100000 in
set_option maxHeartbeats 1000000 in
theorem c_X10_clock {l : Launch} {D : va_G} {cy : Nat → ClassId} {B : Nat} {s0 : State} {S : PS} {y : Nat → Nat} {dE mi : Nat} {g : MS} {c0 : CS} {i : Nat} (hC : CR S y dE g c0) (hE : EnvC dE mi B s0) (hi : i < 6) : KI l yX10_clock wsX10_clock ({ frames := 1, cells := 0, slots := 0, locals := 22 }) D cy B s0 [.ref (y 0), .int (nI i)] S (fun r S2 => S2 = S ∧ r = mClk g i) 0 0 := by
  refine k_body (own := RX10) (cc := cX10_clock) (maxL := 2) (ret := (some .int)) rfl (by decide) rfl (Nat.le_of_ble_eq_true rfl) ?_
  intro p e s m below meth c C hml hr hlk hnm hB hW ls hl
  obtain ⟨hx, hb, hts, hown, hK, hEn⟩ := id C
  have hS : va_S (Aw B) s.heap s.heap [] := va_S.rf
  have hl : lv_has ls 2 [(0, .ref (y 0)), (1, .int (nI i))] := hl
  have hF : CF S S y := CF.rf
  refine lv_iload_n hx hb dX10_clock_0 rfl (lv_at hl 1 rfl) ?_
  refine lv_iconst (v := (-1)) hx hb dX10_clock_1 (by decide) ?_
  refine lv_iconst (v := 5) hx hb dX10_clock_2 (by decide) ?_
  refine k_callSv (As := [.int (nI i), .int (-1), .int 5]) (rest := []) C hml (c_X10_requireWithin (v := nI i) (lo := (-1)) (hi := 5) (rgN hi)) (va_cwS 3 hts gX10_clock_X10_requireWithin rfl rfl rfl (by decide +kernel) ⟨by decide, by decide⟩) hW hS hB rfl hl.1 rfl (Nat.le_of_ble_eq_true rfl) dX10_clock_3 ⟨Nat.le_of_ble_eq_true rfl, Nat.le_of_ble_eq_true rfl⟩ (fun S1 H locs hp9 hW hS => ?_)
  rw [hp9] at hW
  refine lv_aload_n hx hb dX10_clock_6 rfl (lv_at hl 0 rfl) ?_
  refine lv_iload_n hx hb dX10_clock_7 rfl (lv_at hl 1 rfl) ?_
  refine k_callVq (As := [.int (nI i)]) (rest := []) C hml (c_X10_tickerOf hC.1.lay hi) (cwV 1 hts gX10_clock_X10_tickerOf rfl rfl rfl (by decide +kernel) ⟨by decide, by decide⟩) hW hS hB (hC.1.lay.k0).1 (pAt_10 (hC.1.lay.k0).2) rfl rfl hl.1 rfl (Nat.le_of_ble_eq_true rfl) dX10_clock_8 ⟨Nat.le_of_ble_eq_true rfl, Nat.le_of_ble_eq_true rfl⟩ (fun r9 S2 H locs hp9 hW hS => ?_)
  obtain ⟨e8, e9⟩ := hp9
  rw [e8] at hW
  subst e9
  refine k_callVi (As := []) (rest := []) C hml (c_X9_now (hC.1.lay.tk i (by omega))) (cwV 0 hts gX10_clock_X9_now rfl rfl rfl (by decide +kernel) ⟨by decide, by decide⟩) hW hS hB ((hC.1.lay.tk i (by omega))).1 (pAt_9 ((hC.1.lay.tk i (by omega))).2) rfl rfl hl.1 rfl (Nat.le_of_ble_eq_true rfl) dX10_clock_11 ⟨Nat.le_of_ble_eq_true rfl, Nat.le_of_ble_eq_true rfl⟩ (fun r9 S3 H locs hp9 hW hS => ?_)
  obtain ⟨e8, e9⟩ := hp9
  rw [e8] at hW
  rw [hC.1.t0 i (by omega)] at e9
  replace e9 : r9 = mClk g i := e9
  subst e9
  exact k_iret C hr hlk hW hS hB ⟨rfl, rfl⟩ (Nat.le_refl _) (Nat.le_refl _) dX10_clock_14
set_option maxRecDepth 100000 in
set_option maxHeartbeats 1000000 in
theorem c_X10_clock_r {l : Launch} {D : va_G} {cy : Nat → ClassId} {B : Nat} {s0 : State} {S : PS} {y : Nat → Nat} {dE mi : Nat} {g : MS} {c0 : CS} (hC : CR S y dE g c0) (hE : EnvC dE mi B s0) : KI l yX10_clock wsX10_clock ({ frames := 1, cells := 0, slots := 0, locals := 22 }) D cy B s0 [.ref (y 0), .int (-1)] S (fun r S2 => S2 = S ∧ r = mClk g 6) 0 0 := by
  refine k_body (own := RX10) (cc := cX10_clock) (maxL := 2) (ret := (some .int)) rfl (by decide) rfl (Nat.le_of_ble_eq_true rfl) ?_
  intro p e s m below meth c C hml hr hlk hnm hB hW ls hl
  obtain ⟨hx, hb, hts, hown, hK, hEn⟩ := id C
  have hS : va_S (Aw B) s.heap s.heap [] := va_S.rf
  have hl : lv_has ls 2 [(0, .ref (y 0)), (1, .int (-1))] := hl
  have hF : CF S S y := CF.rf
  refine lv_iload_n hx hb dX10_clock_0 rfl (lv_at hl 1 rfl) ?_
  refine lv_iconst (v := (-1)) hx hb dX10_clock_1 (by decide) ?_
  refine lv_iconst (v := 5) hx hb dX10_clock_2 (by decide) ?_
  refine k_callSv (As := [.int (-1), .int (-1), .int 5]) (rest := []) C hml (c_X10_requireWithin (v := (-1)) (lo := (-1)) (hi := 5) (⟨Int32.le_refl _, by decide⟩)) (va_cwS 3 hts gX10_clock_X10_requireWithin rfl rfl rfl (by decide +kernel) ⟨by decide, by decide⟩) hW hS hB rfl hl.1 rfl (Nat.le_of_ble_eq_true rfl) dX10_clock_3 ⟨Nat.le_of_ble_eq_true rfl, Nat.le_of_ble_eq_true rfl⟩ (fun S1 H locs hp9 hW hS => ?_)
  rw [hp9] at hW
  refine lv_aload_n hx hb dX10_clock_6 rfl (lv_at hl 0 rfl) ?_
  refine lv_iload_n hx hb dX10_clock_7 rfl (lv_at hl 1 rfl) ?_
  refine k_callVq (As := [.int (-1)]) (rest := []) C hml (c_X10_tickerOf_r hC.1.lay) (cwV 1 hts gX10_clock_X10_tickerOf rfl rfl rfl (by decide +kernel) ⟨by decide, by decide⟩) hW hS hB (hC.1.lay.k0).1 (pAt_10 (hC.1.lay.k0).2) rfl rfl hl.1 rfl (Nat.le_of_ble_eq_true rfl) dX10_clock_8 ⟨Nat.le_of_ble_eq_true rfl, Nat.le_of_ble_eq_true rfl⟩ (fun r9 S2 H locs hp9 hW hS => ?_)
  obtain ⟨e8, e9⟩ := hp9
  rw [e8] at hW
  subst e9
  refine k_callVi (As := []) (rest := []) C hml (c_X9_now (hC.1.lay.tk 6 (by omega))) (cwV 0 hts gX10_clock_X9_now rfl rfl rfl (by decide +kernel) ⟨by decide, by decide⟩) hW hS hB ((hC.1.lay.tk 6 (by omega))).1 (pAt_9 ((hC.1.lay.tk 6 (by omega))).2) rfl rfl hl.1 rfl (Nat.le_of_ble_eq_true rfl) dX10_clock_11 ⟨Nat.le_of_ble_eq_true rfl, Nat.le_of_ble_eq_true rfl⟩ (fun r9 S3 H locs hp9 hW hS => ?_)
  obtain ⟨e8, e9⟩ := hp9
  rw [e8] at hW
  rw [hC.1.t0 6 (by omega)] at e9
  replace e9 : r9 = mClk g 6 := e9
  subst e9
  exact k_iret C hr hlk hW hS hB ⟨rfl, rfl⟩ (Nat.le_refl _) (Nat.le_refl _) dX10_clock_14
