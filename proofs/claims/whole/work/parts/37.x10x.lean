/-! the checks that throw -/
abbrev xnames : List String := ["java/lang/RuntimeException", "java/lang/Exception"]
theorem k_throw {p : Program} {l : Launch} {e : Env} {R : Room} {s : State} {m : MethodId} {args : Array Value} {below : List Frame} {meth : Method} {c : Code} {H : Heap} {locs : List Loc} {cells slots : Nat} {cc : ByteArray} {pc : Nat} {ls : Array Slot} {D : va_G} {cy : Nat → ClassId} {B : Nat} {S : PS} {Ts : List Cond} {s0 : State} {mc ms nL is : Nat} {text : String} (C : Cx p s m args c cc Ts RX10 D cy B s0) (hEx : EnvX B s0) (hls : l.stackTraces = false) (hml : c.maxLocals = nL) (hsa : ∃ sa, vk_R RX10 is text sa s) (hk : Cond.classLink RX10 192 IAE ∈ Ts) (hini : Cond.initialized IAE ∈ Ts) (hat : ∀ w ∈ (vx_atS RX10 196 IAE xnames).filter goodWord, w ∈ Ts) (hW : PW D cy B S H) (hS : va_S (Aw B) s.heap H locs) (hB : B ≤ s.heap.size) (hsz : ls.size = nL)
    (d0 : decode cc pc = .ok (.new 192, 3)) (d3 : decode cc (pc + 3) = .ok (.dup, 1)) (d4 : decode cc (pc + 4) = .ok (.ldc is, 2)) (d6 : decode cc (pc + 6) = .ok (.invokespecial 196, 3)) (d9 : decode cc (pc + 9) = .ok (.athrow, 1))
    (htb : ∀ x ∈ c.exceptionTable.toList, False) (hlk : meth.locks = false) (hR1 : 5 < R.frames) (hR2 : 82 ≤ R.locals) (hR3 : cells + 1 ≤ R.cells) (hR4 : slots + 6 ≤ R.slots) (hc : cells + 1 ≤ mc) (hs : slots + 6 ≤ ms) :
    W p l e R s m args below meth c H locs cells slots (vx_MQ below (XQ D cy B s0) (XCx D cy B S) args s mc ms (Aw B)) (F0 m pc ls []) := by
  obtain ⟨hx, hb, hts, hown, hK, hEn⟩ := C
  obtain ⟨sa, hsa⟩ := hsa
  have hat2 : ∀ w ∈ vx_atS RX10 196 IAE xnames, w.before args s = true := vx_hat (B := [.castable IAE IAE, .declares (Bundle.initS "java/lang/RuntimeException"), .declares (Bundle.initS "java/lang/Exception"), .declares (Bundle.initS Bundle.tN)]) (fun w hw => hts w (hat w hw)) (by decide +kernel) (vx_c (hEx.c0 hEn) (vx_c (hEx.d1 hEn) (vx_c (hEx.d2 hEn) (vx_c (hEx.d3 hEn) vx_n))))
  exact vx_throwS (cls := IAE) (names := xnames) hx hb hls hown (by decide +kernel) (by decide +kernel) (hts _ hk) (hts _ hini) hsa hat2 (by decide +kernel) (hEx.u hEn) (hEx.n0 hEn) hS (hsz.trans hml.symm) d0 d3 d4 d6 d9 (fun x h => (htb x h).elim) hR1 hR2 hR3 hR4 hlk
    (fun t ha hz hq => ⟨S, rfl, ⟨rfl, Nat.le_trans hB (Nat.le_trans hS.1 hz), hW.grow hq⟩, ⟨Nat.le_trans hS.1 hz, fun q h1 h2 => (hq q (Nat.lt_of_lt_of_le h1 hS.1)).trans (hS.2.1 q h1 h2)⟩⟩) hS.2.2 hc hs
theorem c_X7_find_x {l : Launch} {D : va_G} {cy : Nat → ClassId} {B : Nat} {s0 : State} {S : PS} {y : Nat → Nat} {dE : Nat} {g : MS} {c0 : CS} {p0 : Int32} (h : CR S y dE g c0) (hm : MsgOk g) (hz : ¬ mIsMsg g p0) : KQ l yX7_find wsX7_find ({ frames := 0, cells := 0, slots := 0, locals := 0 }) D cy B s0 [.ref (y 2), .int p0] S (fun r S2 => S2 = S ∧ r = none) 0 0 := by
  by_cases z : 0 ≤ p0 ∧ p0 < nI (mqN g)
  · obtain ⟨q, h1, rfl⟩ := nI_lim (x := p0) (M := nI (mqN g)) (n := mqN g) (nI_toInt (by have := hm.2; omega)) ⟨z.1, Int32.le_of_lt z.2⟩
    have hq : q < mqN g := (nI_ltI (by have := hm.2; omega) (by have := hm.2; omega)).mp z.2
    rcases h.1.ms q hq with ⟨a, b⟩ | ⟨a, -⟩
    · exact c_X7_find_n h hm hq b
    · refine absurd ⟨z.1, by rw [hm.1]; exact z.2, ?_⟩ hz
      rw [nI_clamp (by have := hm.2; omega), a]; decide
  · exact c_X7_find_o h hm z
theorem isMsg_at {S : PS} {y : Nat → Nat} {dE : Nat} {g : MS} {c0 : CS} {p0 : Int32} (h : CR S y dE g c0) (hm : MsgOk g) (hz : mIsMsg g p0) : ∃ q b, q < mqN g ∧ p0 = nI q ∧ aQ S (y 4) q = some b ∧ MsgAt S b (g.1 32 (8 * q)) (g.1 32 (8 * q + 1)) (g.1 32 (8 * q + 2)) (g.1 32 (8 * q + 4)) (g.1 32 (8 * q + 3)) (g.1 32 (8 * q + 5)) (g.1 32 (8 * q + 6)) (g.1 32 (8 * q + 7)) := by
  obtain ⟨q, hq, rfl⟩ := mIsMsg_q hm hz
  have h33 := hz.2.2
  rw [nI_clamp (by have := hm.2; omega)] at h33
  rcases h.1.ms q hq with ⟨a, -⟩ | ⟨-, b, b1, b2⟩
  · exact absurd a h33
  · exact ⟨q, b, hq, rfl, b1, b2⟩
set_option maxRecDepth 100000 in
set_option maxHeartbeats 1000000 in
theorem c_X10_requireWithin_x {l : Launch} {D : va_G} {cy : Nat → ClassId} {B : Nat} {s0 : State} {S : PS} {v lo hi : Int32} (hEx : EnvX B s0) (hls : l.stackTraces = false) (hx9 : ¬ (lo ≤ v ∧ v ≤ hi)) : KX l yX10_requireWithin wsX10_requireWithin ({ frames := 6, cells := 1, slots := 6, locals := 82 }) D cy B s0 [.int v, .int lo, .int hi] S 1 6 := by
  refine k_bodyX (own := RX10) (cc := cX10_requireWithin) (maxL := 3) (ret := none) rfl (by decide) rfl (Nat.le_of_ble_eq_true rfl) ?_
  intro p e s m below meth c C hml htb hlk hB hW ls hl
  obtain ⟨hx, hb, hts, hown, hK, hEn⟩ := id C
  have hS : va_S (Aw B) s.heap s.heap [] := va_S.rf
  have hl : lv_has ls 3 [(0, .int v), (1, .int lo), (2, .int hi)] := hl
  refine lv_iload_n hx hb dX10_requireWithin_0 rfl (lv_at hl 0 rfl) ?_
  refine lv_iload_n hx hb dX10_requireWithin_1 rfl (lv_at hl 1 rfl) ?_
  refine lv_icmp_lt (tgt := 10) hx hb dX10_requireWithin_2 (by decide) (fun c_2 => ?_) (fun c_2 => ?_)
  · exact k_throw C hEx hls hml (hEx.s1 hEn) (by decide +kernel) (by decide +kernel) (by decide +kernel) hW hS hB hl.1 dX10_requireWithin_10 dX10_requireWithin_13 dX10_requireWithin_14 dX10_requireWithin_16 dX10_requireWithin_19 htb hlk (Nat.le_of_ble_eq_true rfl) (Nat.le_of_ble_eq_true rfl) (Nat.le_of_ble_eq_true rfl) (Nat.le_of_ble_eq_true rfl) (Nat.le_of_ble_eq_true rfl) (Nat.le_of_ble_eq_true rfl)
  · refine lv_iload_n hx hb dX10_requireWithin_5 rfl (lv_at hl 0 rfl) ?_
    refine lv_iload_n hx hb dX10_requireWithin_6 rfl (lv_at hl 2 rfl) ?_
    refine lv_icmp_le (tgt := 20) hx hb dX10_requireWithin_7 (by decide) (fun c_7 => absurd ⟨Int32.not_lt.mp c_2, c_7⟩ hx9) (fun c_7 => ?_)
    exact k_throw C hEx hls hml (hEx.s1 hEn) (by decide +kernel) (by decide +kernel) (by decide +kernel) hW hS hB hl.1 dX10_requireWithin_10 dX10_requireWithin_13 dX10_requireWithin_14 dX10_requireWithin_16 dX10_requireWithin_19 htb hlk (Nat.le_of_ble_eq_true rfl) (Nat.le_of_ble_eq_true rfl) (Nat.le_of_ble_eq_true rfl) (Nat.le_of_ble_eq_true rfl) (Nat.le_of_ble_eq_true rfl) (Nat.le_of_ble_eq_true rfl)
set_option maxRecDepth 100000 in
set_option maxHeartbeats 1000000 in
theorem c_X10_requireKey_x {l : Launch} {D : va_G} {cy : Nat → ClassId} {B : Nat} {s0 : State} {S : PS} {v : Int32} (hEx : EnvX B s0) (hls : l.stackTraces = false) (hx9 : ¬ (0 ≤ v ∧ v ≤ 7)) : KX l yX10_requireKey wsX10_requireKey ({ frames := 7, cells := 1, slots := 6, locals := 104 }) D cy B s0 [.int v] S 1 6 := by
  refine k_bodyX (own := RX10) (cc := cX10_requireKey) (maxL := 1) (ret := none) rfl (by decide) rfl (Nat.le_of_ble_eq_true rfl) ?_
  intro p e s m below meth c C hml htb hlk hB hW ls hl
  obtain ⟨hx, hb, hts, hown, hK, hEn⟩ := id C
  have hS : va_S (Aw B) s.heap s.heap [] := va_S.rf
  have hl : lv_has ls 1 [(0, .int v)] := hl
  refine lv_iload_n hx hb dX10_requireKey_0 rfl (lv_at hl 0 rfl) ?_
  refine lv_iconst (v := 0) hx hb dX10_requireKey_1 (by decide) ?_
  refine lv_bipush (v := 7) hx hb dX10_requireKey_2 (by decide) ?_
  by_cases z_4 : 0 ≤ v ∧ v ≤ 7
  · exact absurd z_4 hx9
  · exact k_callSX (As := [.int v, .int 0, .int 7]) (rest := []) C hml (c_X10_requireWithin_x hEx hls z_4) (va_cwS 3 hts gX10_requireKey_X10_requireWithin rfl rfl rfl (by decide +kernel) ⟨by decide, by decide⟩) hW hS hB rfl hl.1 rfl (Nat.le_of_ble_eq_true rfl) dX10_requireKey_4 ⟨Nat.le_of_ble_eq_true rfl, Nat.le_of_ble_eq_true rfl⟩ htb hlk (Nat.le_of_ble_eq_true rfl) (Nat.le_of_ble_eq_true rfl)
set_option maxRecDepth 100000 in
set_option maxHeartbeats 1000000 in
theorem c_X10_requireGate_x {l : Launch} {D : va_G} {cy : Nat → ClassId} {B : Nat} {s0 : State} {S : PS} {v : Int32} (hEx : EnvX B s0) (hls : l.stackTraces = false) (hx9 : ¬ (0 ≤ v ∧ v ≤ 5)) : KX l yX10_requireGate wsX10_requireGate ({ frames := 7, cells := 1, slots := 6, locals := 104 }) D cy B s0 [.int v] S 1 6 := by
  refine k_bodyX (own := RX10) (cc := cX10_requireGate) (maxL := 1) (ret := none) rfl (by decide) rfl (Nat.le_of_ble_eq_true rfl) ?_
  intro p e s m below meth c C hml htb hlk hB hW ls hl
  obtain ⟨hx, hb, hts, hown, hK, hEn⟩ := id C
  have hS : va_S (Aw B) s.heap s.heap [] := va_S.rf
  have hl : lv_has ls 1 [(0, .int v)] := hl
  refine lv_iload_n hx hb dX10_requireGate_0 rfl (lv_at hl 0 rfl) ?_
  refine lv_iconst (v := 0) hx hb dX10_requireGate_1 (by decide) ?_
  refine lv_iconst (v := 5) hx hb dX10_requireGate_2 (by decide) ?_
  by_cases z_3 : 0 ≤ v ∧ v ≤ 5
  · exact absurd z_3 hx9
  · exact k_callSX (As := [.int v, .int 0, .int 5]) (rest := []) C hml (c_X10_requireWithin_x hEx hls z_3) (va_cwS 3 hts gX10_requireGate_X10_requireWithin rfl rfl rfl (by decide +kernel) ⟨by decide, by decide⟩) hW hS hB rfl hl.1 rfl (Nat.le_of_ble_eq_true rfl) dX10_requireGate_3 ⟨Nat.le_of_ble_eq_true rfl, Nat.le_of_ble_eq_true rfl⟩ htb hlk (Nat.le_of_ble_eq_true rfl) (Nat.le_of_ble_eq_true rfl)
set_option maxRecDepth 100000 in
set_option maxHeartbeats 1000000 in
theorem c_X10_requireMessage_x {l : Launch} {D : va_G} {cy : Nat → ClassId} {B : Nat} {s0 : State} {S : PS} {y : Nat → Nat} {dE : Nat} {g : MS} {c0 : CS} {p0 : Int32} (hEx : EnvX B s0) (hls : l.stackTraces = false) (hC : CR S y dE g c0) (hm : MsgOk g) (hx9 : ¬ mIsMsg g p0) : KX l yX10_requireMessage wsX10_requireMessage ({ frames := 6, cells := 1, slots := 6, locals := 82 }) D cy B s0 [.ref (y 0), .int p0] S 1 6 := by
  refine k_bodyX (own := RX10) (cc := cX10_requireMessage) (maxL := 3) (ret := (some (.object "LeaseGates$Message"))) rfl (by decide) rfl (Nat.le_of_ble_eq_true rfl) ?_
  intro p e s m below meth c C hml htb hlk hB hW ls hl
  obtain ⟨hx, hb, hts, hown, hK, hEn⟩ := id C
  have hS : va_S (Aw B) s.heap s.heap [] := va_S.rf
  have hinX10 : ∀ w ∈ wsX100, w ∈ wsX10_requireMessage := by decide +kernel
  have l19 : Cond.fieldLink RX10 19 "LeaseGates" "post" "LLeaseGates$Post;" ∈ wsX10_requireMessage := by decide +kernel
  have hl : lv_has ls 3 [(0, .ref (y 0)), (1, .int p0)] := hl
  refine lv_aload_n hx hb dX10_requireMessage_0 rfl (lv_at hl 0 rfl) ?_
  refine g_1002 C hinX10 hW hC.1.lay.k0 hC.1.lay.r1002 l19 dX10_requireMessage_1 ?_
  refine lv_iload_n hx hb dX10_requireMessage_4 rfl (lv_at hl 1 rfl) ?_
  refine k_callVq (As := [.int p0]) (rest := []) C hml (c_X7_find_x hC hm hx9) (cwV 1 hts gX10_requireMessage_X7_find rfl rfl rfl (by decide +kernel) ⟨by decide, by decide⟩) hW hS hB (hC.1.lay.k2).1 (pAt_7 (hC.1.lay.k2).2) rfl rfl hl.1 rfl (Nat.le_of_ble_eq_true rfl) dX10_requireMessage_5 ⟨Nat.le_of_ble_eq_true rfl, Nat.le_of_ble_eq_true rfl⟩ (fun r9 S1 H locs hp9 hW hS => ?_)
  obtain ⟨e8, e9⟩ := hp9
  rw [e8] at hW
  subst e9
  refine lv_astore_nN (lv' := [(2, .null), (0, .ref (y 0)), (1, .int p0)]) hx hb dX10_requireMessage_8 rfl hl (by decide) rfl (fun ls hl => ?_)
  refine lv_aload_nN hx hb dX10_requireMessage_9 rfl (lv_at hl 0 rfl) ?_
  refine lv_ifnonnullN hx hb dX10_requireMessage_10 ?_
  exact k_throw C hEx hls hml (hEx.s2 hEn) (by decide +kernel) (by decide +kernel) (by decide +kernel) hW hS hB hl.1 dX10_requireMessage_13 dX10_requireMessage_16 dX10_requireMessage_17 dX10_requireMessage_19 dX10_requireMessage_22 htb hlk (Nat.le_of_ble_eq_true rfl) (Nat.le_of_ble_eq_true rfl) (Nat.le_of_ble_eq_true rfl) (Nat.le_of_ble_eq_true rfl) (Nat.le_of_ble_eq_true rfl) (Nat.le_of_ble_eq_true rfl)
set_option maxRecDepth 100000 in
set_option maxHeartbeats 1000000 in
theorem c_X10_key_x {l : Launch} {D : va_G} {cy : Nat → ClassId} {B : Nat} {s0 : State} {S : PS} {y : Nat → Nat} {p0 p1 p2 : Int32} (hEx : EnvX B s0) (hls : l.stackTraces = false) (hLy : Lay S y) (hx9 : ¬ ((0 ≤ p0 ∧ p0 ≤ 7) ∧ (0 ≤ p1 ∧ p1 ≤ 100000) ∧ (0 ≤ p2 ∧ p2 ≤ 1000000))) : KX l yX10_key wsX10_key ({ frames := 8, cells := 1, slots := 6, locals := 124 }) D cy B s0 [.ref (y 0), .int p0, .int p1, .int p2] S 1 6 := by
  refine k_bodyX (own := RX10) (cc := cX10_key) (maxL := 4) (ret := none) rfl (by decide) rfl (Nat.le_of_ble_eq_true rfl) ?_
  intro p e s m below meth c C hml htb hlk hB hW ls hl
  obtain ⟨hx, hb, hts, hown, hK, hEn⟩ := id C
  have hS : va_S (Aw B) s.heap s.heap [] := va_S.rf
  have l35 : Cond.constant RX10 35 (100000) ∈ wsX10_key := by decide +kernel
  have l40 : Cond.constant RX10 40 (1000000) ∈ wsX10_key := by decide +kernel
  have hl : lv_has ls 4 [(0, .ref (y 0)), (1, .int p0), (2, .int p1), (3, .int p2)] := hl
  refine lv_iload_n hx hb dX10_key_0 rfl (lv_at hl 1 rfl) ?_
  by_cases z_1 : 0 ≤ p0 ∧ p0 ≤ 7
  · refine k_callSv (As := [.int p0]) (rest := []) C hml (c_X10_requireKey (z_1)) (va_cwS 1 hts gX10_key_X10_requireKey rfl rfl rfl (by decide +kernel) ⟨by decide, by decide⟩) hW hS hB rfl hl.1 rfl (Nat.le_of_ble_eq_true rfl) dX10_key_1 ⟨Nat.le_of_ble_eq_true rfl, Nat.le_of_ble_eq_true rfl⟩ (fun S1 H locs hp9 hW hS => ?_)
    rw [hp9] at hW
    refine lv_iload_n hx hb dX10_key_4 rfl (lv_at hl 2 rfl) ?_
    refine lv_iconst (v := 0) hx hb dX10_key_5 (by decide) ?_
    refine lv_ldc hx hb hown (hts _ l35) dX10_key_6 ?_
    by_cases z_8 : 0 ≤ p1 ∧ p1 ≤ 100000
    · refine k_callSv (As := [.int p1, .int 0, .int 100000]) (rest := []) C hml (c_X10_requireWithin (v := p1) (lo := 0) (hi := 100000) (z_8)) (va_cwS 3 hts gX10_key_X10_requireWithin rfl rfl rfl (by decide +kernel) ⟨by decide, by decide⟩) hW hS hB rfl hl.1 rfl (Nat.le_of_ble_eq_true rfl) dX10_key_8 ⟨Nat.le_of_ble_eq_true rfl, Nat.le_of_ble_eq_true rfl⟩ (fun S2 H locs hp9 hW hS => ?_)
      rw [hp9] at hW
      refine lv_iload_n hx hb dX10_key_11 rfl (lv_at hl 3 rfl) ?_
      refine lv_iconst (v := 0) hx hb dX10_key_12 (by decide) ?_
      refine lv_ldc hx hb hown (hts _ l40) dX10_key_13 ?_
      by_cases z_15 : 0 ≤ p2 ∧ p2 ≤ 1000000
      · exact absurd ⟨z_1, z_8, z_15⟩ hx9
      · exact k_callSX (As := [.int p2, .int 0, .int 1000000]) (rest := []) C hml (c_X10_requireWithin_x hEx hls z_15) (va_cwS 3 hts gX10_key_X10_requireWithin rfl rfl rfl (by decide +kernel) ⟨by decide, by decide⟩) hW hS hB rfl hl.1 rfl (Nat.le_of_ble_eq_true rfl) dX10_key_15 ⟨Nat.le_of_ble_eq_true rfl, Nat.le_of_ble_eq_true rfl⟩ htb hlk (Nat.le_of_ble_eq_true rfl) (Nat.le_of_ble_eq_true rfl)
    · exact k_callSX (As := [.int p1, .int 0, .int 100000]) (rest := []) C hml (c_X10_requireWithin_x hEx hls z_8) (va_cwS 3 hts gX10_key_X10_requireWithin rfl rfl rfl (by decide +kernel) ⟨by decide, by decide⟩) hW hS hB rfl hl.1 rfl (Nat.le_of_ble_eq_true rfl) dX10_key_8 ⟨Nat.le_of_ble_eq_true rfl, Nat.le_of_ble_eq_true rfl⟩ htb hlk (Nat.le_of_ble_eq_true rfl) (Nat.le_of_ble_eq_true rfl)
  · exact k_callSX (As := [.int p0]) (rest := []) C hml (c_X10_requireKey_x hEx hls z_1) (va_cwS 1 hts gX10_key_X10_requireKey rfl rfl rfl (by decide +kernel) ⟨by decide, by decide⟩) hW hS hB rfl hl.1 rfl (Nat.le_of_ble_eq_true rfl) dX10_key_1 ⟨Nat.le_of_ble_eq_true rfl, Nat.le_of_ble_eq_true rfl⟩ htb hlk (Nat.le_of_ble_eq_true rfl) (Nat.le_of_ble_eq_true rfl)
set_option maxRecDepth 100000 in
set_option maxHeartbeats 1000000 in
theorem c_X10_length_x {l : Launch} {D : va_G} {cy : Nat → ClassId} {B : Nat} {s0 : State} {S : PS} {y : Nat → Nat} {p0 : Int32} (hEx : EnvX B s0) (hls : l.stackTraces = false) (hLy : Lay S y) (hx9 : ¬ (10 ≤ p0 ∧ p0 ≤ 9000)) : KX l yX10_length wsX10_length ({ frames := 8, cells := 1, slots := 6, locals := 124 }) D cy B s0 [.ref (y 0), .int p0] S 1 6 := by
  refine k_bodyX (own := RX10) (cc := cX10_length) (maxL := 2) (ret := none) rfl (by decide) rfl (Nat.le_of_ble_eq_true rfl) ?_
  intro p e s m below meth c C hml htb hlk hB hW ls hl
  obtain ⟨hx, hb, hts, hown, hK, hEn⟩ := id C
  have hS : va_S (Aw B) s.heap s.heap [] := va_S.rf
  have hl : lv_has ls 2 [(0, .ref (y 0)), (1, .int p0)] := hl
  refine lv_iload_n hx hb dX10_length_0 rfl (lv_at hl 1 rfl) ?_
  refine lv_bipush (v := 10) hx hb dX10_length_1 (by decide) ?_
  refine lv_sipush (v := 9000) hx hb dX10_length_3 (by decide) ?_
  by_cases z_6 : 10 ≤ p0 ∧ p0 ≤ 9000
  · exact absurd z_6 hx9
  · exact k_callSX (As := [.int p0, .int 10, .int 9000]) (rest := []) C hml (c_X10_requireWithin_x hEx hls z_6) (va_cwS 3 hts gX10_length_X10_requireWithin rfl rfl rfl (by decide +kernel) ⟨by decide, by decide⟩) hW hS hB rfl hl.1 rfl (Nat.le_of_ble_eq_true rfl) dX10_length_6 ⟨Nat.le_of_ble_eq_true rfl, Nat.le_of_ble_eq_true rfl⟩ htb hlk (Nat.le_of_ble_eq_true rfl) (Nat.le_of_ble_eq_true rfl)
set_option maxRecDepth 100000 in
set_option maxHeartbeats 1000000 in
theorem c_X10_weight_x {l : Launch} {D : va_G} {cy : Nat → ClassId} {B : Nat} {s0 : State} {S : PS} {y : Nat → Nat} {p0 p1 p2 : Int32} (hEx : EnvX B s0) (hls : l.stackTraces = false) (hLy : Lay S y) (hx9 : ¬ ((0 ≤ p0 ∧ p0 ≤ 5) ∧ (0 ≤ p1 ∧ p1 ≤ 7) ∧ (1 ≤ p2 ∧ p2 ≤ 100))) : KX l yX10_weight wsX10_weight ({ frames := 8, cells := 1, slots := 6, locals := 124 }) D cy B s0 [.ref (y 0), .int p0, .int p1, .int p2] S 1 6 := by
  refine k_bodyX (own := RX10) (cc := cX10_weight) (maxL := 4) (ret := none) rfl (by decide) rfl (Nat.le_of_ble_eq_true rfl) ?_
  intro p e s m below meth c C hml htb hlk hB hW ls hl
  obtain ⟨hx, hb, hts, hown, hK, hEn⟩ := id C
  have hS : va_S (Aw B) s.heap s.heap [] := va_S.rf
  have hl : lv_has ls 4 [(0, .ref (y 0)), (1, .int p0), (2, .int p1), (3, .int p2)] := hl
  refine lv_iload_n hx hb dX10_weight_0 rfl (lv_at hl 1 rfl) ?_
  by_cases z_1 : 0 ≤ p0 ∧ p0 ≤ 5
  · refine k_callSv (As := [.int p0]) (rest := []) C hml (c_X10_requireGate (z_1)) (va_cwS 1 hts gX10_weight_X10_requireGate rfl rfl rfl (by decide +kernel) ⟨by decide, by decide⟩) hW hS hB rfl hl.1 rfl (Nat.le_of_ble_eq_true rfl) dX10_weight_1 ⟨Nat.le_of_ble_eq_true rfl, Nat.le_of_ble_eq_true rfl⟩ (fun S1 H locs hp9 hW hS => ?_)
    rw [hp9] at hW
    refine lv_iload_n hx hb dX10_weight_4 rfl (lv_at hl 2 rfl) ?_
    by_cases z_5 : 0 ≤ p1 ∧ p1 ≤ 7
    · refine k_callSv (As := [.int p1]) (rest := []) C hml (c_X10_requireKey (z_5)) (va_cwS 1 hts gX10_weight_X10_requireKey rfl rfl rfl (by decide +kernel) ⟨by decide, by decide⟩) hW hS hB rfl hl.1 rfl (Nat.le_of_ble_eq_true rfl) dX10_weight_5 ⟨Nat.le_of_ble_eq_true rfl, Nat.le_of_ble_eq_true rfl⟩ (fun S2 H locs hp9 hW hS => ?_)
      rw [hp9] at hW
      refine lv_iload_n hx hb dX10_weight_8 rfl (lv_at hl 3 rfl) ?_
      refine lv_iconst (v := 1) hx hb dX10_weight_9 (by decide) ?_
      refine lv_bipush (v := 100) hx hb dX10_weight_10 (by decide) ?_
      by_cases z_12 : 1 ≤ p2 ∧ p2 ≤ 100
      · exact absurd ⟨z_1, z_5, z_12⟩ hx9
      · exact k_callSX (As := [.int p2, .int 1, .int 100]) (rest := []) C hml (c_X10_requireWithin_x hEx hls z_12) (va_cwS 3 hts gX10_weight_X10_requireWithin rfl rfl rfl (by decide +kernel) ⟨by decide, by decide⟩) hW hS hB rfl hl.1 rfl (Nat.le_of_ble_eq_true rfl) dX10_weight_12 ⟨Nat.le_of_ble_eq_true rfl, Nat.le_of_ble_eq_true rfl⟩ htb hlk (Nat.le_of_ble_eq_true rfl) (Nat.le_of_ble_eq_true rfl)
    · exact k_callSX (As := [.int p1]) (rest := []) C hml (c_X10_requireKey_x hEx hls z_5) (va_cwS 1 hts gX10_weight_X10_requireKey rfl rfl rfl (by decide +kernel) ⟨by decide, by decide⟩) hW hS hB rfl hl.1 rfl (Nat.le_of_ble_eq_true rfl) dX10_weight_5 ⟨Nat.le_of_ble_eq_true rfl, Nat.le_of_ble_eq_true rfl⟩ htb hlk (Nat.le_of_ble_eq_true rfl) (Nat.le_of_ble_eq_true rfl)
  · exact k_callSX (As := [.int p0]) (rest := []) C hml (c_X10_requireGate_x hEx hls z_1) (va_cwS 1 hts gX10_weight_X10_requireGate rfl rfl rfl (by decide +kernel) ⟨by decide, by decide⟩) hW hS hB rfl hl.1 rfl (Nat.le_of_ble_eq_true rfl) dX10_weight_1 ⟨Nat.le_of_ble_eq_true rfl, Nat.le_of_ble_eq_true rfl⟩ htb hlk (Nat.le_of_ble_eq_true rfl) (Nat.le_of_ble_eq_true rfl)
set_option maxRecDepth 100000 in
set_option maxHeartbeats 1000000 in
theorem c_X10_speed_x {l : Launch} {D : va_G} {cy : Nat → ClassId} {B : Nat} {s0 : State} {S : PS} {y : Nat → Nat} {p0 p1 : Int32} (hEx : EnvX B s0) (hls : l.stackTraces = false) (hLy : Lay S y) (hx9 : ¬ (((-1) ≤ p0 ∧ p0 ≤ 5) ∧ (999 ≤ p1 ∧ p1 ≤ 1001))) : KX l yX10_speed wsX10_speed ({ frames := 8, cells := 1, slots := 6, locals := 124 }) D cy B s0 [.ref (y 0), .int p0, .int p1] S 1 6 := by
  refine k_bodyX (own := RX10) (cc := cX10_speed) (maxL := 3) (ret := none) rfl (by decide) rfl (Nat.le_of_ble_eq_true rfl) ?_
  intro p e s m below meth c C hml htb hlk hB hW ls hl
  obtain ⟨hx, hb, hts, hown, hK, hEn⟩ := id C
  have hS : va_S (Aw B) s.heap s.heap [] := va_S.rf
  have hl : lv_has ls 3 [(0, .ref (y 0)), (1, .int p0), (2, .int p1)] := hl
  refine lv_iload_n hx hb dX10_speed_0 rfl (lv_at hl 1 rfl) ?_
  refine lv_iconst (v := (-1)) hx hb dX10_speed_1 (by decide) ?_
  refine lv_iconst (v := 5) hx hb dX10_speed_2 (by decide) ?_
  by_cases z_3 : (-1) ≤ p0 ∧ p0 ≤ 5
  · refine k_callSv (As := [.int p0, .int (-1), .int 5]) (rest := []) C hml (c_X10_requireWithin (v := p0) (lo := (-1)) (hi := 5) (z_3)) (va_cwS 3 hts gX10_speed_X10_requireWithin rfl rfl rfl (by decide +kernel) ⟨by decide, by decide⟩) hW hS hB rfl hl.1 rfl (Nat.le_of_ble_eq_true rfl) dX10_speed_3 ⟨Nat.le_of_ble_eq_true rfl, Nat.le_of_ble_eq_true rfl⟩ (fun S1 H locs hp9 hW hS => ?_)
    rw [hp9] at hW
    refine lv_iload_n hx hb dX10_speed_6 rfl (lv_at hl 2 rfl) ?_
    refine lv_sipush (v := 999) hx hb dX10_speed_7 (by decide) ?_
    refine lv_sipush (v := 1001) hx hb dX10_speed_10 (by decide) ?_
    by_cases z_13 : 999 ≤ p1 ∧ p1 ≤ 1001
    · exact absurd ⟨z_3, z_13⟩ hx9
    · exact k_callSX (As := [.int p1, .int 999, .int 1001]) (rest := []) C hml (c_X10_requireWithin_x hEx hls z_13) (va_cwS 3 hts gX10_speed_X10_requireWithin rfl rfl rfl (by decide +kernel) ⟨by decide, by decide⟩) hW hS hB rfl hl.1 rfl (Nat.le_of_ble_eq_true rfl) dX10_speed_13 ⟨Nat.le_of_ble_eq_true rfl, Nat.le_of_ble_eq_true rfl⟩ htb hlk (Nat.le_of_ble_eq_true rfl) (Nat.le_of_ble_eq_true rfl)
  · exact k_callSX (As := [.int p0, .int (-1), .int 5]) (rest := []) C hml (c_X10_requireWithin_x hEx hls z_3) (va_cwS 3 hts gX10_speed_X10_requireWithin rfl rfl rfl (by decide +kernel) ⟨by decide, by decide⟩) hW hS hB rfl hl.1 rfl (Nat.le_of_ble_eq_true rfl) dX10_speed_3 ⟨Nat.le_of_ble_eq_true rfl, Nat.le_of_ble_eq_true rfl⟩ htb hlk (Nat.le_of_ble_eq_true rfl) (Nat.le_of_ble_eq_true rfl)
set_option maxRecDepth 100000 in
set_option maxHeartbeats 1000000 in
theorem c_X10_take_x {l : Launch} {D : va_G} {cy : Nat → ClassId} {B : Nat} {s0 : State} {S : PS} {y : Nat → Nat} {p0 p1 p2 : Int32} (hEx : EnvX B s0) (hls : l.stackTraces = false) (hLy : Lay S y) (hx9 : ¬ (((0 ≤ p0 ∧ p0 ≤ 5) ∧ (0 ≤ p1 ∧ p1 ≤ 7)) ∧ (1 ≤ p2 ∧ p2 ≤ 10000))) : KX l yX10_take wsX10_take ({ frames := 8, cells := 1, slots := 6, locals := 124 }) D cy B s0 [.ref (y 0), .int p0, .int p1, .int p2] S 1 6 := by
  refine k_bodyX (own := RX10) (cc := cX10_take) (maxL := 5) (ret := (some .boolean)) rfl (by decide) rfl (Nat.le_of_ble_eq_true rfl) ?_
  intro p e s m below meth c C hml htb hlk hB hW ls hl
  obtain ⟨hx, hb, hts, hown, hK, hEn⟩ := id C
  have hS : va_S (Aw B) s.heap s.heap [] := va_S.rf
  have hl : lv_has ls 5 [(0, .ref (y 0)), (1, .int p0), (2, .int p1), (3, .int p2)] := hl
  refine lv_iload_n hx hb dX10_take_0 rfl (lv_at hl 1 rfl) ?_
  by_cases z_1 : 0 ≤ p0 ∧ p0 ≤ 5
  · refine k_callSv (As := [.int p0]) (rest := []) C hml (c_X10_requireGate (z_1)) (va_cwS 1 hts gX10_take_X10_requireGate rfl rfl rfl (by decide +kernel) ⟨by decide, by decide⟩) hW hS hB rfl hl.1 rfl (Nat.le_of_ble_eq_true rfl) dX10_take_1 ⟨Nat.le_of_ble_eq_true rfl, Nat.le_of_ble_eq_true rfl⟩ (fun S1 H locs hp9 hW hS => ?_)
    rw [hp9] at hW
    refine lv_iload_n hx hb dX10_take_4 rfl (lv_at hl 2 rfl) ?_
    by_cases z_5 : 0 ≤ p1 ∧ p1 ≤ 7
    · refine k_callSv (As := [.int p1]) (rest := []) C hml (c_X10_requireKey (z_5)) (va_cwS 1 hts gX10_take_X10_requireKey rfl rfl rfl (by decide +kernel) ⟨by decide, by decide⟩) hW hS hB rfl hl.1 rfl (Nat.le_of_ble_eq_true rfl) dX10_take_5 ⟨Nat.le_of_ble_eq_true rfl, Nat.le_of_ble_eq_true rfl⟩ (fun S2 H locs hp9 hW hS => ?_)
      rw [hp9] at hW
      refine lv_iload_n hx hb dX10_take_8 rfl (lv_at hl 3 rfl) ?_
      refine lv_iconst (v := 1) hx hb dX10_take_9 (by decide) ?_
      refine lv_sipush (v := 10000) hx hb dX10_take_10 (by decide) ?_
      by_cases z_13 : 1 ≤ p2 ∧ p2 ≤ 10000
      · exact absurd ⟨⟨z_1, z_5⟩, z_13⟩ hx9
      · exact k_callSX (As := [.int p2, .int 1, .int 10000]) (rest := []) C hml (c_X10_requireWithin_x hEx hls z_13) (va_cwS 3 hts gX10_take_X10_requireWithin rfl rfl rfl (by decide +kernel) ⟨by decide, by decide⟩) hW hS hB rfl hl.1 rfl (Nat.le_of_ble_eq_true rfl) dX10_take_13 ⟨Nat.le_of_ble_eq_true rfl, Nat.le_of_ble_eq_true rfl⟩ htb hlk (Nat.le_of_ble_eq_true rfl) (Nat.le_of_ble_eq_true rfl)
    · exact k_callSX (As := [.int p1]) (rest := []) C hml (c_X10_requireKey_x hEx hls z_5) (va_cwS 1 hts gX10_take_X10_requireKey rfl rfl rfl (by decide +kernel) ⟨by decide, by decide⟩) hW hS hB rfl hl.1 rfl (Nat.le_of_ble_eq_true rfl) dX10_take_5 ⟨Nat.le_of_ble_eq_true rfl, Nat.le_of_ble_eq_true rfl⟩ htb hlk (Nat.le_of_ble_eq_true rfl) (Nat.le_of_ble_eq_true rfl)
  · exact k_callSX (As := [.int p0]) (rest := []) C hml (c_X10_requireGate_x hEx hls z_1) (va_cwS 1 hts gX10_take_X10_requireGate rfl rfl rfl (by decide +kernel) ⟨by decide, by decide⟩) hW hS hB rfl hl.1 rfl (Nat.le_of_ble_eq_true rfl) dX10_take_1 ⟨Nat.le_of_ble_eq_true rfl, Nat.le_of_ble_eq_true rfl⟩ htb hlk (Nat.le_of_ble_eq_true rfl) (Nat.le_of_ble_eq_true rfl)
set_option maxRecDepth 100000 in
set_option maxHeartbeats 1000000 in
theorem c_X10_work_x {l : Launch} {D : va_G} {cy : Nat → ClassId} {B : Nat} {s0 : State} {S : PS} {y : Nat → Nat} {p0 : Int32} (hEx : EnvX B s0) (hls : l.stackTraces = false) (hLy : Lay S y) (hx9 : ¬ (0 ≤ p0 ∧ p0 ≤ 5)) : KX l yX10_work wsX10_work ({ frames := 8, cells := 1, slots := 6, locals := 124 }) D cy B s0 [.ref (y 0), .int p0] S 1 6 := by
  refine k_bodyX (own := RX10) (cc := cX10_work) (maxL := 3) (ret := (some .int)) rfl (by decide) rfl (Nat.le_of_ble_eq_true rfl) ?_
  intro p e s m below meth c C hml htb hlk hB hW ls hl
  obtain ⟨hx, hb, hts, hown, hK, hEn⟩ := id C
  have hS : va_S (Aw B) s.heap s.heap [] := va_S.rf
  have hl : lv_has ls 3 [(0, .ref (y 0)), (1, .int p0)] := hl
  refine lv_iload_n hx hb dX10_work_0 rfl (lv_at hl 1 rfl) ?_
  by_cases z_1 : 0 ≤ p0 ∧ p0 ≤ 5
  · exact absurd z_1 hx9
  · exact k_callSX (As := [.int p0]) (rest := []) C hml (c_X10_requireGate_x hEx hls z_1) (va_cwS 1 hts gX10_work_X10_requireGate rfl rfl rfl (by decide +kernel) ⟨by decide, by decide⟩) hW hS hB rfl hl.1 rfl (Nat.le_of_ble_eq_true rfl) dX10_work_1 ⟨Nat.le_of_ble_eq_true rfl, Nat.le_of_ble_eq_true rfl⟩ htb hlk (Nat.le_of_ble_eq_true rfl) (Nat.le_of_ble_eq_true rfl)
set_option maxRecDepth 100000 in
set_option maxHeartbeats 1000000 in
theorem c_X10_carry_x {l : Launch} {D : va_G} {cy : Nat → ClassId} {B : Nat} {s0 : State} {S : PS} {y : Nat → Nat} {dE : Nat} {g : MS} {c0 : CS} {p0 : Int32} (hEx : EnvX B s0) (hls : l.stackTraces = false) (hC : CR S y dE g c0) (hm : MsgOk g) (hx9 : ¬ mIsMsg g p0) : KX l yX10_carry wsX10_carry ({ frames := 7, cells := 1, slots := 6, locals := 104 }) D cy B s0 [.ref (y 0), .int p0] S 1 6 := by
  refine k_bodyX (own := RX10) (cc := cX10_carry) (maxL := 3) (ret := (some .boolean)) rfl (by decide) rfl (Nat.le_of_ble_eq_true rfl) ?_
  intro p e s m below meth c C hml htb hlk hB hW ls hl
  obtain ⟨hx, hb, hts, hown, hK, hEn⟩ := id C
  have hS : va_S (Aw B) s.heap s.heap [] := va_S.rf
  have hl : lv_has ls 3 [(0, .ref (y 0)), (1, .int p0)] := hl
  refine lv_aload_n hx hb dX10_carry_0 rfl (lv_at hl 0 rfl) ?_
  refine lv_iload_n hx hb dX10_carry_1 rfl (lv_at hl 1 rfl) ?_
  by_cases z_2 : mIsMsg g p0
  · exact absurd z_2 hx9
  · exact k_callVX (As := [.int p0]) (rest := []) C hml (c_X10_requireMessage_x hEx hls hC hm z_2) (cwV 1 hts gX10_carry_X10_requireMessage rfl rfl rfl (by decide +kernel) ⟨by decide, by decide⟩) hW hS hB (hC.1.lay.k0).1 (pAt_10 (hC.1.lay.k0).2) rfl rfl hl.1 rfl (Nat.le_of_ble_eq_true rfl) dX10_carry_2 ⟨Nat.le_of_ble_eq_true rfl, Nat.le_of_ble_eq_true rfl⟩ htb hlk (Nat.le_of_ble_eq_true rfl) (Nat.le_of_ble_eq_true rfl)
set_option maxRecDepth 100000 in
set_option maxHeartbeats 1000000 in
theorem c_X10_drop_x {l : Launch} {D : va_G} {cy : Nat → ClassId} {B : Nat} {s0 : State} {S : PS} {y : Nat → Nat} {dE : Nat} {g : MS} {c0 : CS} {p0 : Int32} (hEx : EnvX B s0) (hls : l.stackTraces = false) (hC : CR S y dE g c0) (hm : MsgOk g) (hx9 : ¬ mIsMsg g p0) : KX l yX10_drop wsX10_drop ({ frames := 7, cells := 1, slots := 6, locals := 104 }) D cy B s0 [.ref (y 0), .int p0] S 1 6 := by
  refine k_bodyX (own := RX10) (cc := cX10_drop) (maxL := 2) (ret := none) rfl (by decide) rfl (Nat.le_of_ble_eq_true rfl) ?_
  intro p e s m below meth c C hml htb hlk hB hW ls hl
  obtain ⟨hx, hb, hts, hown, hK, hEn⟩ := id C
  have hS : va_S (Aw B) s.heap s.heap [] := va_S.rf
  have hl : lv_has ls 2 [(0, .ref (y 0)), (1, .int p0)] := hl
  refine lv_aload_n hx hb dX10_drop_0 rfl (lv_at hl 0 rfl) ?_
  refine lv_iload_n hx hb dX10_drop_1 rfl (lv_at hl 1 rfl) ?_
  by_cases z_2 : mIsMsg g p0
  · exact absurd z_2 hx9
  · exact k_callVX (As := [.int p0]) (rest := []) C hml (c_X10_requireMessage_x hEx hls hC hm z_2) (cwV 1 hts gX10_drop_X10_requireMessage rfl rfl rfl (by decide +kernel) ⟨by decide, by decide⟩) hW hS hB (hC.1.lay.k0).1 (pAt_10 (hC.1.lay.k0).2) rfl rfl hl.1 rfl (Nat.le_of_ble_eq_true rfl) dX10_drop_2 ⟨Nat.le_of_ble_eq_true rfl, Nat.le_of_ble_eq_true rfl⟩ htb hlk (Nat.le_of_ble_eq_true rfl) (Nat.le_of_ble_eq_true rfl)
set_option maxRecDepth 100000 in
set_option maxHeartbeats 1000000 in
theorem c_X10_tick_x {l : Launch} {D : va_G} {cy : Nat → ClassId} {B : Nat} {s0 : State} {S : PS} {y : Nat → Nat} {p0 : Int32} (hEx : EnvX B s0) (hls : l.stackTraces = false) (hLy : Lay S y) (hx9 : ¬ (1 ≤ p0 ∧ p0 ≤ 5000)) : KX l yX10_tick wsX10_tick ({ frames := 8, cells := 1, slots := 6, locals := 124 }) D cy B s0 [.ref (y 0), .int p0] S 1 6 := by
  refine k_bodyX (own := RX10) (cc := cX10_tick) (maxL := 3) (ret := none) rfl (by decide) rfl (Nat.le_of_ble_eq_true rfl) ?_
  intro p e s m below meth c C hml htb hlk hB hW ls hl
  obtain ⟨hx, hb, hts, hown, hK, hEn⟩ := id C
  have hS : va_S (Aw B) s.heap s.heap [] := va_S.rf
  have hl : lv_has ls 3 [(0, .ref (y 0)), (1, .int p0)] := hl
  refine lv_iload_n hx hb dX10_tick_0 rfl (lv_at hl 1 rfl) ?_
  refine lv_iconst (v := 1) hx hb dX10_tick_1 (by decide) ?_
  refine lv_sipush (v := 5000) hx hb dX10_tick_2 (by decide) ?_
  by_cases z_5 : 1 ≤ p0 ∧ p0 ≤ 5000
  · exact absurd z_5 hx9
  · exact k_callSX (As := [.int p0, .int 1, .int 5000]) (rest := []) C hml (c_X10_requireWithin_x hEx hls z_5) (va_cwS 3 hts gX10_tick_X10_requireWithin rfl rfl rfl (by decide +kernel) ⟨by decide, by decide⟩) hW hS hB rfl hl.1 rfl (Nat.le_of_ble_eq_true rfl) dX10_tick_5 ⟨Nat.le_of_ble_eq_true rfl, Nat.le_of_ble_eq_true rfl⟩ htb hlk (Nat.le_of_ble_eq_true rfl) (Nat.le_of_ble_eq_true rfl)
set_option maxRecDepth 100000 in
set_option maxHeartbeats 1000000 in
theorem c_X10_restart_x {l : Launch} {D : va_G} {cy : Nat → ClassId} {B : Nat} {s0 : State} {S : PS} {y : Nat → Nat} {p0 : Int32} (hEx : EnvX B s0) (hls : l.stackTraces = false) (hLy : Lay S y) (hx9 : ¬ (0 ≤ p0 ∧ p0 ≤ 5)) : KX l yX10_restart wsX10_restart ({ frames := 8, cells := 1, slots := 6, locals := 124 }) D cy B s0 [.ref (y 0), .int p0] S 1 6 := by
  refine k_bodyX (own := RX10) (cc := cX10_restart) (maxL := 2) (ret := (some .int)) rfl (by decide) rfl (Nat.le_of_ble_eq_true rfl) ?_
  intro p e s m below meth c C hml htb hlk hB hW ls hl
  obtain ⟨hx, hb, hts, hown, hK, hEn⟩ := id C
  have hS : va_S (Aw B) s.heap s.heap [] := va_S.rf
  have hl : lv_has ls 2 [(0, .ref (y 0)), (1, .int p0)] := hl
  refine lv_iload_n hx hb dX10_restart_0 rfl (lv_at hl 1 rfl) ?_
  by_cases z_1 : 0 ≤ p0 ∧ p0 ≤ 5
  · exact absurd z_1 hx9
  · exact k_callSX (As := [.int p0]) (rest := []) C hml (c_X10_requireGate_x hEx hls z_1) (va_cwS 1 hts gX10_restart_X10_requireGate rfl rfl rfl (by decide +kernel) ⟨by decide, by decide⟩) hW hS hB rfl hl.1 rfl (Nat.le_of_ble_eq_true rfl) dX10_restart_1 ⟨Nat.le_of_ble_eq_true rfl, Nat.le_of_ble_eq_true rfl⟩ htb hlk (Nat.le_of_ble_eq_true rfl) (Nat.le_of_ble_eq_true rfl)
set_option maxRecDepth 100000 in
set_option maxHeartbeats 1000000 in
theorem c_X10_root_x {l : Launch} {D : va_G} {cy : Nat → ClassId} {B : Nat} {s0 : State} {S : PS} {y : Nat → Nat} {p0 p1 : Int32} (hEx : EnvX B s0) (hls : l.stackTraces = false) (hLy : Lay S y) (hx9 : ¬ ((0 ≤ p0 ∧ p0 ≤ 7) ∧ (0 ≤ p1 ∧ p1 ≤ 3))) : KX l yX10_root wsX10_root ({ frames := 8, cells := 1, slots := 6, locals := 124 }) D cy B s0 [.ref (y 0), .int p0, .int p1] S 1 6 := by
  refine k_bodyX (own := RX10) (cc := cX10_root) (maxL := 4) (ret := (some .int)) rfl (by decide) rfl (Nat.le_of_ble_eq_true rfl) ?_
  intro p e s m below meth c C hml htb hlk hB hW ls hl
  obtain ⟨hx, hb, hts, hown, hK, hEn⟩ := id C
  have hS : va_S (Aw B) s.heap s.heap [] := va_S.rf
  have hl : lv_has ls 4 [(0, .ref (y 0)), (1, .int p0), (2, .int p1)] := hl
  refine lv_iload_n hx hb dX10_root_0 rfl (lv_at hl 1 rfl) ?_
  by_cases z_1 : 0 ≤ p0 ∧ p0 ≤ 7
  · refine k_callSv (As := [.int p0]) (rest := []) C hml (c_X10_requireKey (z_1)) (va_cwS 1 hts gX10_root_X10_requireKey rfl rfl rfl (by decide +kernel) ⟨by decide, by decide⟩) hW hS hB rfl hl.1 rfl (Nat.le_of_ble_eq_true rfl) dX10_root_1 ⟨Nat.le_of_ble_eq_true rfl, Nat.le_of_ble_eq_true rfl⟩ (fun S1 H locs hp9 hW hS => ?_)
    rw [hp9] at hW
    refine lv_iload_n hx hb dX10_root_4 rfl (lv_at hl 2 rfl) ?_
    refine lv_iconst (v := 0) hx hb dX10_root_5 (by decide) ?_
    refine lv_iconst (v := 3) hx hb dX10_root_6 (by decide) ?_
    by_cases z_7 : 0 ≤ p1 ∧ p1 ≤ 3
    · exact absurd ⟨z_1, z_7⟩ hx9
    · exact k_callSX (As := [.int p1, .int 0, .int 3]) (rest := []) C hml (c_X10_requireWithin_x hEx hls z_7) (va_cwS 3 hts gX10_root_X10_requireWithin rfl rfl rfl (by decide +kernel) ⟨by decide, by decide⟩) hW hS hB rfl hl.1 rfl (Nat.le_of_ble_eq_true rfl) dX10_root_7 ⟨Nat.le_of_ble_eq_true rfl, Nat.le_of_ble_eq_true rfl⟩ htb hlk (Nat.le_of_ble_eq_true rfl) (Nat.le_of_ble_eq_true rfl)
  · exact k_callSX (As := [.int p0]) (rest := []) C hml (c_X10_requireKey_x hEx hls z_1) (va_cwS 1 hts gX10_root_X10_requireKey rfl rfl rfl (by decide +kernel) ⟨by decide, by decide⟩) hW hS hB rfl hl.1 rfl (Nat.le_of_ble_eq_true rfl) dX10_root_1 ⟨Nat.le_of_ble_eq_true rfl, Nat.le_of_ble_eq_true rfl⟩ htb hlk (Nat.le_of_ble_eq_true rfl) (Nat.le_of_ble_eq_true rfl)
set_option maxRecDepth 100000 in
set_option maxHeartbeats 1000000 in
theorem c_X10_gate_x {l : Launch} {D : va_G} {cy : Nat → ClassId} {B : Nat} {s0 : State} {S : PS} {y : Nat → Nat} {p0 p1 p2 : Int32} (hEx : EnvX B s0) (hls : l.stackTraces = false) (hLy : Lay S y) (hx9 : ¬ (((0 ≤ p0 ∧ p0 ≤ 5) ∧ (0 ≤ p1 ∧ p1 ≤ 7)) ∧ (0 ≤ p2 ∧ p2 ≤ 6))) : KX l yX10_gate wsX10_gate ({ frames := 8, cells := 1, slots := 6, locals := 124 }) D cy B s0 [.ref (y 0), .int p0, .int p1, .int p2] S 1 6 := by
  refine k_bodyX (own := RX10) (cc := cX10_gate) (maxL := 5) (ret := (some .int)) rfl (by decide) rfl (Nat.le_of_ble_eq_true rfl) ?_
  intro p e s m below meth c C hml htb hlk hB hW ls hl
  obtain ⟨hx, hb, hts, hown, hK, hEn⟩ := id C
  have hS : va_S (Aw B) s.heap s.heap [] := va_S.rf
  have hl : lv_has ls 5 [(0, .ref (y 0)), (1, .int p0), (2, .int p1), (3, .int p2)] := hl
  refine lv_iload_n hx hb dX10_gate_0 rfl (lv_at hl 1 rfl) ?_
  by_cases z_1 : 0 ≤ p0 ∧ p0 ≤ 5
  · refine k_callSv (As := [.int p0]) (rest := []) C hml (c_X10_requireGate (z_1)) (va_cwS 1 hts gX10_gate_X10_requireGate rfl rfl rfl (by decide +kernel) ⟨by decide, by decide⟩) hW hS hB rfl hl.1 rfl (Nat.le_of_ble_eq_true rfl) dX10_gate_1 ⟨Nat.le_of_ble_eq_true rfl, Nat.le_of_ble_eq_true rfl⟩ (fun S1 H locs hp9 hW hS => ?_)
    rw [hp9] at hW
    refine lv_iload_n hx hb dX10_gate_4 rfl (lv_at hl 2 rfl) ?_
    by_cases z_5 : 0 ≤ p1 ∧ p1 ≤ 7
    · refine k_callSv (As := [.int p1]) (rest := []) C hml (c_X10_requireKey (z_5)) (va_cwS 1 hts gX10_gate_X10_requireKey rfl rfl rfl (by decide +kernel) ⟨by decide, by decide⟩) hW hS hB rfl hl.1 rfl (Nat.le_of_ble_eq_true rfl) dX10_gate_5 ⟨Nat.le_of_ble_eq_true rfl, Nat.le_of_ble_eq_true rfl⟩ (fun S2 H locs hp9 hW hS => ?_)
      rw [hp9] at hW
      refine lv_iload_n hx hb dX10_gate_8 rfl (lv_at hl 3 rfl) ?_
      refine lv_iconst (v := 0) hx hb dX10_gate_9 (by decide) ?_
      refine lv_bipush (v := 6) hx hb dX10_gate_10 (by decide) ?_
      by_cases z_12 : 0 ≤ p2 ∧ p2 ≤ 6
      · exact absurd ⟨⟨z_1, z_5⟩, z_12⟩ hx9
      · exact k_callSX (As := [.int p2, .int 0, .int 6]) (rest := []) C hml (c_X10_requireWithin_x hEx hls z_12) (va_cwS 3 hts gX10_gate_X10_requireWithin rfl rfl rfl (by decide +kernel) ⟨by decide, by decide⟩) hW hS hB rfl hl.1 rfl (Nat.le_of_ble_eq_true rfl) dX10_gate_12 ⟨Nat.le_of_ble_eq_true rfl, Nat.le_of_ble_eq_true rfl⟩ htb hlk (Nat.le_of_ble_eq_true rfl) (Nat.le_of_ble_eq_true rfl)
    · exact k_callSX (As := [.int p1]) (rest := []) C hml (c_X10_requireKey_x hEx hls z_5) (va_cwS 1 hts gX10_gate_X10_requireKey rfl rfl rfl (by decide +kernel) ⟨by decide, by decide⟩) hW hS hB rfl hl.1 rfl (Nat.le_of_ble_eq_true rfl) dX10_gate_5 ⟨Nat.le_of_ble_eq_true rfl, Nat.le_of_ble_eq_true rfl⟩ htb hlk (Nat.le_of_ble_eq_true rfl) (Nat.le_of_ble_eq_true rfl)
  · exact k_callSX (As := [.int p0]) (rest := []) C hml (c_X10_requireGate_x hEx hls z_1) (va_cwS 1 hts gX10_gate_X10_requireGate rfl rfl rfl (by decide +kernel) ⟨by decide, by decide⟩) hW hS hB rfl hl.1 rfl (Nat.le_of_ble_eq_true rfl) dX10_gate_1 ⟨Nat.le_of_ble_eq_true rfl, Nat.le_of_ble_eq_true rfl⟩ htb hlk (Nat.le_of_ble_eq_true rfl) (Nat.le_of_ble_eq_true rfl)
set_option maxRecDepth 100000 in
set_option maxHeartbeats 1000000 in
theorem c_X10_message_x {l : Launch} {D : va_G} {cy : Nat → ClassId} {B : Nat} {s0 : State} {S : PS} {y : Nat → Nat} {dE : Nat} {g : MS} {c0 : CS} {p0 p1 : Int32} (hEx : EnvX B s0) (hls : l.stackTraces = false) (hC : CR S y dE g c0) (hm : MsgOk g) (hx9 : ¬ (mIsMsg g p0 ∧ (0 ≤ p1 ∧ p1 ≤ 6))) : KX l yX10_message wsX10_message ({ frames := 7, cells := 1, slots := 6, locals := 104 }) D cy B s0 [.ref (y 0), .int p0, .int p1] S 1 6 := by
  refine k_bodyX (own := RX10) (cc := cX10_message) (maxL := 4) (ret := (some .int)) rfl (by decide) rfl (Nat.le_of_ble_eq_true rfl) ?_
  intro p e s m below meth c C hml htb hlk hB hW ls hl
  obtain ⟨hx, hb, hts, hown, hK, hEn⟩ := id C
  have hS : va_S (Aw B) s.heap s.heap [] := va_S.rf
  have hl : lv_has ls 4 [(0, .ref (y 0)), (1, .int p0), (2, .int p1)] := hl
  refine lv_aload_n hx hb dX10_message_0 rfl (lv_at hl 0 rfl) ?_
  refine lv_iload_n hx hb dX10_message_1 rfl (lv_at hl 1 rfl) ?_
  by_cases z_2 : mIsMsg g p0
  · obtain ⟨q, b, hq, rfl, hz, hM⟩ := isMsg_at hC hm z_2
    refine k_callVq (As := [.int (nI q)]) (rest := []) C hml (c_X10_requireMessage hC hm hq hz) (cwV 1 hts gX10_message_X10_requireMessage rfl rfl rfl (by decide +kernel) ⟨by decide, by decide⟩) hW hS hB (hC.1.lay.k0).1 (pAt_10 (hC.1.lay.k0).2) rfl rfl hl.1 rfl (Nat.le_of_ble_eq_true rfl) dX10_message_2 ⟨Nat.le_of_ble_eq_true rfl, Nat.le_of_ble_eq_true rfl⟩ (fun r9 S1 H locs hp9 hW hS => ?_)
    obtain ⟨e8, e9⟩ := hp9
    rw [e8] at hW
    subst e9
    refine lv_astore_n (lv' := [(3, .ref b), (0, .ref (y 0)), (1, .int (nI q)), (2, .int p1)]) hx hb dX10_message_5 rfl hl (by decide) rfl (fun ls hl => ?_)
    refine lv_iload_n hx hb dX10_message_6 rfl (lv_at hl 3 rfl) ?_
    refine lv_iconst (v := 0) hx hb dX10_message_7 (by decide) ?_
    refine lv_bipush (v := 6) hx hb dX10_message_8 (by decide) ?_
    by_cases z_10 : 0 ≤ p1 ∧ p1 ≤ 6
    · exact absurd ⟨z_2, z_10⟩ hx9
    · exact k_callSX (As := [.int p1, .int 0, .int 6]) (rest := []) C hml (c_X10_requireWithin_x hEx hls z_10) (va_cwS 3 hts gX10_message_X10_requireWithin rfl rfl rfl (by decide +kernel) ⟨by decide, by decide⟩) hW hS hB rfl hl.1 rfl (Nat.le_of_ble_eq_true rfl) dX10_message_10 ⟨Nat.le_of_ble_eq_true rfl, Nat.le_of_ble_eq_true rfl⟩ htb hlk (Nat.le_of_ble_eq_true rfl) (Nat.le_of_ble_eq_true rfl)
  · exact k_callVX (As := [.int p0]) (rest := []) C hml (c_X10_requireMessage_x hEx hls hC hm z_2) (cwV 1 hts gX10_message_X10_requireMessage rfl rfl rfl (by decide +kernel) ⟨by decide, by decide⟩) hW hS hB (hC.1.lay.k0).1 (pAt_10 (hC.1.lay.k0).2) rfl rfl hl.1 rfl (Nat.le_of_ble_eq_true rfl) dX10_message_2 ⟨Nat.le_of_ble_eq_true rfl, Nat.le_of_ble_eq_true rfl⟩ htb hlk (Nat.le_of_ble_eq_true rfl) (Nat.le_of_ble_eq_true rfl)
set_option maxRecDepth 100000 in
set_option maxHeartbeats 1000000 in
theorem c_X10_clock_x {l : Launch} {D : va_G} {cy : Nat → ClassId} {B : Nat} {s0 : State} {S : PS} {y : Nat → Nat} {p0 : Int32} (hEx : EnvX B s0) (hls : l.stackTraces = false) (hLy : Lay S y) (hx9 : ¬ ((-1) ≤ p0 ∧ p0 ≤ 5)) : KX l yX10_clock wsX10_clock ({ frames := 8, cells := 1, slots := 6, locals := 124 }) D cy B s0 [.ref (y 0), .int p0] S 1 6 := by
  refine k_bodyX (own := RX10) (cc := cX10_clock) (maxL := 2) (ret := (some .int)) rfl (by decide) rfl (Nat.le_of_ble_eq_true rfl) ?_
  intro p e s m below meth c C hml htb hlk hB hW ls hl
  obtain ⟨hx, hb, hts, hown, hK, hEn⟩ := id C
  have hS : va_S (Aw B) s.heap s.heap [] := va_S.rf
  have hl : lv_has ls 2 [(0, .ref (y 0)), (1, .int p0)] := hl
  refine lv_iload_n hx hb dX10_clock_0 rfl (lv_at hl 1 rfl) ?_
  refine lv_iconst (v := (-1)) hx hb dX10_clock_1 (by decide) ?_
  refine lv_iconst (v := 5) hx hb dX10_clock_2 (by decide) ?_
  by_cases z_3 : (-1) ≤ p0 ∧ p0 ≤ 5
  · exact absurd z_3 hx9
  · exact k_callSX (As := [.int p0, .int (-1), .int 5]) (rest := []) C hml (c_X10_requireWithin_x hEx hls z_3) (va_cwS 3 hts gX10_clock_X10_requireWithin rfl rfl rfl (by decide +kernel) ⟨by decide, by decide⟩) hW hS hB rfl hl.1 rfl (Nat.le_of_ble_eq_true rfl) dX10_clock_3 ⟨Nat.le_of_ble_eq_true rfl, Nat.le_of_ble_eq_true rfl⟩ htb hlk (Nat.le_of_ble_eq_true rfl) (Nat.le_of_ble_eq_true rfl)
