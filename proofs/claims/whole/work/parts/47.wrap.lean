set_option maxRecDepth 100000 in
set_option maxHeartbeats 1000000 in
theorem c_L_key {l : Launch} {D : va_G} {cy : Nat → ClassId} {B : Nat} {s0 : State} {S : PS} {y : Nat → Nat} {dE mi : Nat} {g : MS} {c0 : CS} {n c9 d9 ob : Nat} {f : Nat → Nat} {p0 p1 p2 : Int32} (hC : CR S y dE g c0) (hE : EnvC dE mi B s0) (hEx : EnvX B s0) (hls : l.stackTraces = false) (hCB : CanB c0 g n) (hH : CanH c0 g n) (hG : GInv g n f c9 d9) (hc : c9 < 512) (hob : IsAt S 14 ob) (hon : aN S ob = 1)  : KI l yL_key wsL_key ({ frames := 9, cells := 1, slots := 6, locals := 147 }) D cy B s0 [.ref (y 0), .int p0, .int p1, .int p2] S (fun r S2 => WP S S2 y dE ob (mKey g n p0 p1 p2) n ∧ r = (mKey g n p0 p1 p2).2.2 1100) 1 6 := by
  refine k_bodyW (own := RL) (cc := cL_key) (maxL := 5) (ret := (some .int)) (hh := [(0, 7, 10, 13)]) rfl (by decide) rfl (Nat.le_of_ble_eq_true rfl) ?_
  intro p e s m below meth c C hml hr hlk htb hB hW ls hl
  obtain ⟨hx, hb, hts, hown, hK, hEn⟩ := id C
  have hS : va_S (Aw B) s.heap s.heap [] := va_S.rf
  have hl : lv_has ls 5 [(0, .ref (y 0)), (1, .int p0), (2, .int p1), (3, .int p2)] := hl
  have hm := hG.b.mo
  have h7 := hC.1.lay.k7
  by_cases z9 : (0 ≤ p0 ∧ p0 ≤ 7) ∧ (0 ≤ p1 ∧ p1 ≤ 100000) ∧ (0 ≤ p2 ∧ p2 ≤ 1000000)
  · obtain ⟨k, hk8, e_p0⟩ := nI_lim (M := 7) (n := 7) (by decide) z9.1
    have z8_p0 := z9
    subst e_p0
    refine lv_aload_n hx hb dL_key_0 rfl (lv_at hl 0 rfl) ?_
    refine lv_iload_n hx hb dL_key_1 rfl (lv_at hl 1 rfl) ?_
    refine lv_iload_n hx hb dL_key_2 rfl (lv_at hl 2 rfl) ?_
    refine lv_iload_n hx hb dL_key_3 rfl (lv_at hl 3 rfl) ?_
    refine k_callVv (As := [.int (nI k), .int p1, .int p2]) (rest := []) C hml (c_X10_key (g := iF g 1100 0) hC.f0 hE hk8 hG.a.n3 hCB.f0 hG.f0.a.bi z9.2.1 z9.2.2) (cwV 3 hts gL_key_X10_key rfl rfl rfl (by decide +kernel) ⟨by decide, by decide⟩) hW hS hB (hC.1.lay.k0).1 (pAt_10 (hC.1.lay.k0).2) rfl rfl hl.1 rfl (Nat.le_of_ble_eq_true rfl) dL_key_4 ⟨Nat.le_of_ble_eq_true rfl, Nat.le_of_ble_eq_true rfl⟩ (fun S1 H locs hp9 hW hS => ?_)
    refine lv_goto (tgt := 14) hx hb dL_key_7 (by decide) ?_
    refine lv_iconst (v := 0) hx hb dL_key_14 (by decide) ?_
    exact k_iret C hr hlk hW hS hB (wp_key z9 rfl hk8 hC.1.lay.k7 hob hon hCB hH hp9) (Nat.le_of_ble_eq_true rfl) (Nat.le_of_ble_eq_true rfl) dL_key_15
  · refine lv_aload_n hx hb dL_key_0 rfl (lv_at hl 0 rfl) ?_
    refine lv_iload_n hx hb dL_key_1 rfl (lv_at hl 1 rfl) ?_
    refine lv_iload_n hx hb dL_key_2 rfl (lv_at hl 2 rfl) ?_
    refine lv_iload_n hx hb dL_key_3 rfl (lv_at hl 3 rfl) ?_
    refine k_callVC (As := [.int p0, .int p1, .int p2]) (rest := []) (x := ⟨0, 7, 10, 13⟩) C hml (c_X10_key_x hEx hls hC.1.lay z9) (cwV 3 hts gL_key_X10_key rfl rfl rfl (by decide +kernel) ⟨by decide, by decide⟩) hW hS hB (hC.1.lay.k0).1 (pAt_10 (hC.1.lay.k0).2) rfl rfl hl.1 rfl (Nat.le_of_ble_eq_true rfl) dL_key_4 ⟨Nat.le_of_ble_eq_true rfl, Nat.le_of_ble_eq_true rfl⟩ htb (by decide) (by decide) (hts (.classLink RL 13 IAE) (by decide +kernel)) (hEx.c0 hEn) (fun q9 H locs hW hS => ?_)
    refine lv_astore (lv' := [(4, .ref q9), (0, .ref (y 0)), (1, .int p0), (2, .int p1), (3, .int p2)]) hx hb dL_key_10 hl (by decide) rfl (fun ls hl => ?_)
    refine lv_iconst (v := 1) hx hb dL_key_12 (by decide) ?_
    exact k_iret C hr hlk hW hS hB (wp_x (by rw [mKey, if_neg z9]) hon hC hCB hH) (Nat.le_of_ble_eq_true rfl) (Nat.le_of_ble_eq_true rfl) dL_key_13
set_option maxRecDepth 100000 in
set_option maxHeartbeats 1000000 in
theorem c_L_length {l : Launch} {D : va_G} {cy : Nat → ClassId} {B : Nat} {s0 : State} {S : PS} {y : Nat → Nat} {dE mi : Nat} {g : MS} {c0 : CS} {n c9 d9 ob : Nat} {f : Nat → Nat} {p0 : Int32} (hC : CR S y dE g c0) (hE : EnvC dE mi B s0) (hEx : EnvX B s0) (hls : l.stackTraces = false) (hCB : CanB c0 g n) (hH : CanH c0 g n) (hG : GInv g n f c9 d9) (hc : c9 < 512) (hob : IsAt S 14 ob) (hon : aN S ob = 1)  : KI l yL_length wsL_length ({ frames := 9, cells := 1, slots := 6, locals := 145 }) D cy B s0 [.ref (y 0), .int p0] S (fun r S2 => WP S S2 y dE ob (mLength g p0) n ∧ r = (mLength g p0).2.2 1100) 1 6 := by
  refine k_bodyW (own := RL) (cc := cL_length) (maxL := 3) (ret := (some .int)) (hh := [(0, 5, 8, 13)]) rfl (by decide) rfl (Nat.le_of_ble_eq_true rfl) ?_
  intro p e s m below meth c C hml hr hlk htb hB hW ls hl
  obtain ⟨hx, hb, hts, hown, hK, hEn⟩ := id C
  have hS : va_S (Aw B) s.heap s.heap [] := va_S.rf
  have hl : lv_has ls 3 [(0, .ref (y 0)), (1, .int p0)] := hl
  have hm := hG.b.mo
  have h7 := hC.1.lay.k7
  by_cases z9 : 10 ≤ p0 ∧ p0 ≤ 9000
  · refine lv_aload_n hx hb dL_length_0 rfl (lv_at hl 0 rfl) ?_
    refine lv_iload_n hx hb dL_length_1 rfl (lv_at hl 1 rfl) ?_
    refine k_callVv (As := [.int p0]) (rest := []) C hml (c_X10_length (g := iF g 1100 0) hC.f0 hE z9) (cwV 1 hts gL_length_X10_length rfl rfl rfl (by decide +kernel) ⟨by decide, by decide⟩) hW hS hB (hC.1.lay.k0).1 (pAt_10 (hC.1.lay.k0).2) rfl rfl hl.1 rfl (Nat.le_of_ble_eq_true rfl) dL_length_2 ⟨Nat.le_of_ble_eq_true rfl, Nat.le_of_ble_eq_true rfl⟩ (fun S1 H locs hp9 hW hS => ?_)
    refine lv_goto (tgt := 11) hx hb dL_length_5 (by decide) ?_
    refine lv_iconst (v := 0) hx hb dL_length_11 (by decide) ?_
    exact k_iret C hr hlk hW hS hB (wp_length z9 hC.1.lay.k7 hob hon hCB hH hp9) (Nat.le_of_ble_eq_true rfl) (Nat.le_of_ble_eq_true rfl) dL_length_12
  · refine lv_aload_n hx hb dL_length_0 rfl (lv_at hl 0 rfl) ?_
    refine lv_iload_n hx hb dL_length_1 rfl (lv_at hl 1 rfl) ?_
    refine k_callVC (As := [.int p0]) (rest := []) (x := ⟨0, 5, 8, 13⟩) C hml (c_X10_length_x hEx hls hC.1.lay z9) (cwV 1 hts gL_length_X10_length rfl rfl rfl (by decide +kernel) ⟨by decide, by decide⟩) hW hS hB (hC.1.lay.k0).1 (pAt_10 (hC.1.lay.k0).2) rfl rfl hl.1 rfl (Nat.le_of_ble_eq_true rfl) dL_length_2 ⟨Nat.le_of_ble_eq_true rfl, Nat.le_of_ble_eq_true rfl⟩ htb (by decide) (by decide) (hts (.classLink RL 13 IAE) (by decide +kernel)) (hEx.c0 hEn) (fun q9 H locs hW hS => ?_)
    refine lv_astore_n (lv' := [(2, .ref q9), (0, .ref (y 0)), (1, .int p0)]) hx hb dL_length_8 rfl hl (by decide) rfl (fun ls hl => ?_)
    refine lv_iconst (v := 1) hx hb dL_length_9 (by decide) ?_
    exact k_iret C hr hlk hW hS hB (wp_x (by rw [mLength, if_neg z9]) hon hC hCB hH) (Nat.le_of_ble_eq_true rfl) (Nat.le_of_ble_eq_true rfl) dL_length_10
set_option maxRecDepth 100000 in
set_option maxHeartbeats 1000000 in
theorem c_L_weight {l : Launch} {D : va_G} {cy : Nat → ClassId} {B : Nat} {s0 : State} {S : PS} {y : Nat → Nat} {dE mi : Nat} {g : MS} {c0 : CS} {n c9 d9 ob : Nat} {f : Nat → Nat} {p0 p1 p2 : Int32} (hC : CR S y dE g c0) (hE : EnvC dE mi B s0) (hEx : EnvX B s0) (hls : l.stackTraces = false) (hCB : CanB c0 g n) (hH : CanH c0 g n) (hG : GInv g n f c9 d9) (hc : c9 < 512) (hob : IsAt S 14 ob) (hon : aN S ob = 1)  : KI l yL_weight wsL_weight ({ frames := 9, cells := 1, slots := 6, locals := 147 }) D cy B s0 [.ref (y 0), .int p0, .int p1, .int p2] S (fun r S2 => WP S S2 y dE ob (mWeight g p0 p1 p2) n ∧ r = (mWeight g p0 p1 p2).2.2 1100) 1 6 := by
  refine k_bodyW (own := RL) (cc := cL_weight) (maxL := 5) (ret := (some .int)) (hh := [(0, 7, 10, 13)]) rfl (by decide) rfl (Nat.le_of_ble_eq_true rfl) ?_
  intro p e s m below meth c C hml hr hlk htb hB hW ls hl
  obtain ⟨hx, hb, hts, hown, hK, hEn⟩ := id C
  have hS : va_S (Aw B) s.heap s.heap [] := va_S.rf
  have hl : lv_has ls 5 [(0, .ref (y 0)), (1, .int p0), (2, .int p1), (3, .int p2)] := hl
  have hm := hG.b.mo
  have h7 := hC.1.lay.k7
  by_cases z9 : (0 ≤ p0 ∧ p0 ≤ 5) ∧ (0 ≤ p1 ∧ p1 ≤ 7) ∧ (1 ≤ p2 ∧ p2 ≤ 100)
  · obtain ⟨gt, hg, e_p0⟩ := nI_lim (M := 5) (n := 5) (by decide) z9.1
    have z8_p0 := z9
    subst e_p0
    obtain ⟨kk, hk8, e_p1⟩ := nI_lim (M := 7) (n := 7) (by decide) z9.2.1
    have z8_p1 := z9
    subst e_p1
    refine lv_aload_n hx hb dL_weight_0 rfl (lv_at hl 0 rfl) ?_
    refine lv_iload_n hx hb dL_weight_1 rfl (lv_at hl 1 rfl) ?_
    refine lv_iload_n hx hb dL_weight_2 rfl (lv_at hl 2 rfl) ?_
    refine lv_iload_n hx hb dL_weight_3 rfl (lv_at hl 3 rfl) ?_
    refine k_callVv (As := [.int (nI gt), .int (nI kk), .int p2]) (rest := []) C hml (c_X10_weight (g := iF g 1100 0) hC.f0 hE hg hk8 z9.2.2) (cwV 3 hts gL_weight_X10_weight rfl rfl rfl (by decide +kernel) ⟨by decide, by decide⟩) hW hS hB (hC.1.lay.k0).1 (pAt_10 (hC.1.lay.k0).2) rfl rfl hl.1 rfl (Nat.le_of_ble_eq_true rfl) dL_weight_4 ⟨Nat.le_of_ble_eq_true rfl, Nat.le_of_ble_eq_true rfl⟩ (fun S1 H locs hp9 hW hS => ?_)
    refine lv_goto (tgt := 14) hx hb dL_weight_7 (by decide) ?_
    refine lv_iconst (v := 0) hx hb dL_weight_14 (by decide) ?_
    exact k_iret C hr hlk hW hS hB (wp_weight z9 rfl rfl hg hk8 hC.1.lay.k7 hob hon hCB hH hp9) (Nat.le_of_ble_eq_true rfl) (Nat.le_of_ble_eq_true rfl) dL_weight_15
  · refine lv_aload_n hx hb dL_weight_0 rfl (lv_at hl 0 rfl) ?_
    refine lv_iload_n hx hb dL_weight_1 rfl (lv_at hl 1 rfl) ?_
    refine lv_iload_n hx hb dL_weight_2 rfl (lv_at hl 2 rfl) ?_
    refine lv_iload_n hx hb dL_weight_3 rfl (lv_at hl 3 rfl) ?_
    refine k_callVC (As := [.int p0, .int p1, .int p2]) (rest := []) (x := ⟨0, 7, 10, 13⟩) C hml (c_X10_weight_x hEx hls hC.1.lay z9) (cwV 3 hts gL_weight_X10_weight rfl rfl rfl (by decide +kernel) ⟨by decide, by decide⟩) hW hS hB (hC.1.lay.k0).1 (pAt_10 (hC.1.lay.k0).2) rfl rfl hl.1 rfl (Nat.le_of_ble_eq_true rfl) dL_weight_4 ⟨Nat.le_of_ble_eq_true rfl, Nat.le_of_ble_eq_true rfl⟩ htb (by decide) (by decide) (hts (.classLink RL 13 IAE) (by decide +kernel)) (hEx.c0 hEn) (fun q9 H locs hW hS => ?_)
    refine lv_astore (lv' := [(4, .ref q9), (0, .ref (y 0)), (1, .int p0), (2, .int p1), (3, .int p2)]) hx hb dL_weight_10 hl (by decide) rfl (fun ls hl => ?_)
    refine lv_iconst (v := 1) hx hb dL_weight_12 (by decide) ?_
    exact k_iret C hr hlk hW hS hB (wp_x (by rw [mWeight, if_neg z9]) hon hC hCB hH) (Nat.le_of_ble_eq_true rfl) (Nat.le_of_ble_eq_true rfl) dL_weight_13
set_option maxRecDepth 100000 in
set_option maxHeartbeats 1000000 in
theorem c_L_speed {l : Launch} {D : va_G} {cy : Nat → ClassId} {B : Nat} {s0 : State} {S : PS} {y : Nat → Nat} {dE mi : Nat} {g : MS} {c0 : CS} {n c9 d9 ob : Nat} {f : Nat → Nat} {p0 p1 : Int32} (hC : CR S y dE g c0) (hE : EnvC dE mi B s0) (hEx : EnvX B s0) (hls : l.stackTraces = false) (hCB : CanB c0 g n) (hH : CanH c0 g n) (hG : GInv g n f c9 d9) (hc : c9 < 512) (hob : IsAt S 14 ob) (hon : aN S ob = 1)  : KI l yL_speed wsL_speed ({ frames := 9, cells := 1, slots := 6, locals := 146 }) D cy B s0 [.ref (y 0), .int p0, .int p1] S (fun r S2 => WP S S2 y dE ob (mSpeed g p0 p1) n ∧ r = (mSpeed g p0 p1).2.2 1100) 1 6 := by
  refine k_bodyW (own := RL) (cc := cL_speed) (maxL := 4) (ret := (some .int)) (hh := [(0, 6, 9, 13)]) rfl (by decide) rfl (Nat.le_of_ble_eq_true rfl) ?_
  intro p e s m below meth c C hml hr hlk htb hB hW ls hl
  obtain ⟨hx, hb, hts, hown, hK, hEn⟩ := id C
  have hS : va_S (Aw B) s.heap s.heap [] := va_S.rf
  have hl : lv_has ls 4 [(0, .ref (y 0)), (1, .int p0), (2, .int p1)] := hl
  have hm := hG.b.mo
  have h7 := hC.1.lay.k7
  by_cases z9 : ((-1) ≤ p0 ∧ p0 ≤ 5) ∧ (999 ≤ p1 ∧ p1 ≤ 1001)
  · by_cases z8 : p0 < 0
    · have e_p0 : p0 = (-1) := neg1 z9.1.1 z8
      subst e_p0
      refine lv_aload_n hx hb dL_speed_0 rfl (lv_at hl 0 rfl) ?_
      refine lv_iload_n hx hb dL_speed_1 rfl (lv_at hl 1 rfl) ?_
      refine lv_iload_n hx hb dL_speed_2 rfl (lv_at hl 2 rfl) ?_
      refine k_callVv (As := [.int (-1), .int p1]) (rest := []) C hml (c_X10_speed_r (g := iF g 1100 0) hC.f0 hE z9.2) (cwV 2 hts gL_speed_X10_speed rfl rfl rfl (by decide +kernel) ⟨by decide, by decide⟩) hW hS hB (hC.1.lay.k0).1 (pAt_10 (hC.1.lay.k0).2) rfl rfl hl.1 rfl (Nat.le_of_ble_eq_true rfl) dL_speed_3 ⟨Nat.le_of_ble_eq_true rfl, Nat.le_of_ble_eq_true rfl⟩ (fun S1 H locs hp9 hW hS => ?_)
      refine lv_goto (tgt := 12) hx hb dL_speed_6 (by decide) ?_
      refine lv_iconst (v := 0) hx hb dL_speed_12 (by decide) ?_
      exact k_iret C hr hlk hW hS hB (wp_speed (i := 6) z9 (if_pos (by decide)) hC.1.lay.k7 hob hon hCB hH hp9) (Nat.le_of_ble_eq_true rfl) (Nat.le_of_ble_eq_true rfl) dL_speed_13
    · obtain ⟨i, hi, e_p0⟩ := nI_lim (M := 5) (n := 5) (by decide) ⟨Int32.not_lt.mp z8, z9.1.2⟩
      subst e_p0
      refine lv_aload_n hx hb dL_speed_0 rfl (lv_at hl 0 rfl) ?_
      refine lv_iload_n hx hb dL_speed_1 rfl (lv_at hl 1 rfl) ?_
      refine lv_iload_n hx hb dL_speed_2 rfl (lv_at hl 2 rfl) ?_
      refine k_callVv (As := [.int (nI i), .int p1]) (rest := []) C hml (c_X10_speed (g := iF g 1100 0) hC.f0 hE hi z9.2) (cwV 2 hts gL_speed_X10_speed rfl rfl rfl (by decide +kernel) ⟨by decide, by decide⟩) hW hS hB (hC.1.lay.k0).1 (pAt_10 (hC.1.lay.k0).2) rfl rfl hl.1 rfl (Nat.le_of_ble_eq_true rfl) dL_speed_3 ⟨Nat.le_of_ble_eq_true rfl, Nat.le_of_ble_eq_true rfl⟩ (fun S2 H locs hp9 hW hS => ?_)
      refine lv_goto (tgt := 12) hx hb dL_speed_6 (by decide) ?_
      refine lv_iconst (v := 0) hx hb dL_speed_12 (by decide) ?_
      exact k_iret C hr hlk hW hS hB (wp_speed (i := i) z9 (by rw [if_neg z8, nI_clamp (by omega)]) hC.1.lay.k7 hob hon hCB hH hp9) (Nat.le_of_ble_eq_true rfl) (Nat.le_of_ble_eq_true rfl) dL_speed_13
  · refine lv_aload_n hx hb dL_speed_0 rfl (lv_at hl 0 rfl) ?_
    refine lv_iload_n hx hb dL_speed_1 rfl (lv_at hl 1 rfl) ?_
    refine lv_iload_n hx hb dL_speed_2 rfl (lv_at hl 2 rfl) ?_
    refine k_callVC (As := [.int p0, .int p1]) (rest := []) (x := ⟨0, 6, 9, 13⟩) C hml (c_X10_speed_x hEx hls hC.1.lay z9) (cwV 2 hts gL_speed_X10_speed rfl rfl rfl (by decide +kernel) ⟨by decide, by decide⟩) hW hS hB (hC.1.lay.k0).1 (pAt_10 (hC.1.lay.k0).2) rfl rfl hl.1 rfl (Nat.le_of_ble_eq_true rfl) dL_speed_3 ⟨Nat.le_of_ble_eq_true rfl, Nat.le_of_ble_eq_true rfl⟩ htb (by decide) (by decide) (hts (.classLink RL 13 IAE) (by decide +kernel)) (hEx.c0 hEn) (fun q9 H locs hW hS => ?_)
    refine lv_astore_n (lv' := [(3, .ref q9), (0, .ref (y 0)), (1, .int p0), (2, .int p1)]) hx hb dL_speed_9 rfl hl (by decide) rfl (fun ls hl => ?_)
    refine lv_iconst (v := 1) hx hb dL_speed_10 (by decide) ?_
    exact k_iret C hr hlk hW hS hB (wp_x (by rw [mSpeed, if_neg z9]) hon hC hCB hH) (Nat.le_of_ble_eq_true rfl) (Nat.le_of_ble_eq_true rfl) dL_speed_11
set_option maxRecDepth 100000 in
set_option maxHeartbeats 1000000 in
theorem c_L_drop {l : Launch} {D : va_G} {cy : Nat → ClassId} {B : Nat} {s0 : State} {S : PS} {y : Nat → Nat} {dE mi : Nat} {g : MS} {c0 : CS} {n c9 d9 ob : Nat} {f : Nat → Nat} {p0 : Int32} (hC : CR S y dE g c0) (hE : EnvC dE mi B s0) (hEx : EnvX B s0) (hls : l.stackTraces = false) (hCB : CanB c0 g n) (hH : CanH c0 g n) (hG : GInv g n f c9 d9) (hc : c9 < 512) (hob : IsAt S 14 ob) (hon : aN S ob = 1)  : KI l yL_drop wsL_drop ({ frames := 8, cells := 1, slots := 6, locals := 125 }) D cy B s0 [.ref (y 0), .int p0] S (fun r S2 => WP S S2 y dE ob (mDrop g p0) n ∧ r = (mDrop g p0).2.2 1100) 1 6 := by
  refine k_bodyW (own := RL) (cc := cL_drop) (maxL := 3) (ret := (some .int)) (hh := [(0, 5, 8, 13)]) rfl (by decide) rfl (Nat.le_of_ble_eq_true rfl) ?_
  intro p e s m below meth c C hml hr hlk htb hB hW ls hl
  obtain ⟨hx, hb, hts, hown, hK, hEn⟩ := id C
  have hS : va_S (Aw B) s.heap s.heap [] := va_S.rf
  have hl : lv_has ls 3 [(0, .ref (y 0)), (1, .int p0)] := hl
  have hm := hG.b.mo
  have h7 := hC.1.lay.k7
  by_cases z9 : mIsMsg g p0
  · obtain ⟨q, b, hq, e_p0, hz, hM⟩ := isMsg_at hC hm z9
    subst e_p0
    refine lv_aload_n hx hb dL_drop_0 rfl (lv_at hl 0 rfl) ?_
    refine lv_iload_n hx hb dL_drop_1 rfl (lv_at hl 1 rfl) ?_
    refine k_callVv (As := [.int (nI q)]) (rest := []) C hml (c_X10_drop (g := iF g 1100 0) hC.f0 hE hm hq hz) (cwV 1 hts gL_drop_X10_drop rfl rfl rfl (by decide +kernel) ⟨by decide, by decide⟩) hW hS hB (hC.1.lay.k0).1 (pAt_10 (hC.1.lay.k0).2) rfl rfl hl.1 rfl (Nat.le_of_ble_eq_true rfl) dL_drop_2 ⟨Nat.le_of_ble_eq_true rfl, Nat.le_of_ble_eq_true rfl⟩ (fun S1 H locs hp9 hW hS => ?_)
    refine lv_goto (tgt := 11) hx hb dL_drop_5 (by decide) ?_
    refine lv_iconst (v := 0) hx hb dL_drop_11 (by decide) ?_
    exact k_iret C hr hlk hW hS hB (wp_drop z9 rfl hm hq hC.1.lay.k7 hob hon hCB hH hp9) (Nat.le_of_ble_eq_true rfl) (Nat.le_of_ble_eq_true rfl) dL_drop_12
  · refine lv_aload_n hx hb dL_drop_0 rfl (lv_at hl 0 rfl) ?_
    refine lv_iload_n hx hb dL_drop_1 rfl (lv_at hl 1 rfl) ?_
    refine k_callVC (As := [.int p0]) (rest := []) (x := ⟨0, 5, 8, 13⟩) C hml (c_X10_drop_x hEx hls hC hm z9) (cwV 1 hts gL_drop_X10_drop rfl rfl rfl (by decide +kernel) ⟨by decide, by decide⟩) hW hS hB (hC.1.lay.k0).1 (pAt_10 (hC.1.lay.k0).2) rfl rfl hl.1 rfl (Nat.le_of_ble_eq_true rfl) dL_drop_2 ⟨Nat.le_of_ble_eq_true rfl, Nat.le_of_ble_eq_true rfl⟩ htb (by decide) (by decide) (hts (.classLink RL 13 IAE) (by decide +kernel)) (hEx.c0 hEn) (fun q9 H locs hW hS => ?_)
    refine lv_astore_n (lv' := [(2, .ref q9), (0, .ref (y 0)), (1, .int p0)]) hx hb dL_drop_8 rfl hl (by decide) rfl (fun ls hl => ?_)
    refine lv_iconst (v := 1) hx hb dL_drop_9 (by decide) ?_
    exact k_iret C hr hlk hW hS hB (wp_x (by rw [mDrop, if_neg z9]) hon hC hCB hH) (Nat.le_of_ble_eq_true rfl) (Nat.le_of_ble_eq_true rfl) dL_drop_10
set_option maxRecDepth 100000 in
set_option maxHeartbeats 1000000 in
theorem c_L_tick {l : Launch} {D : va_G} {cy : Nat → ClassId} {B : Nat} {s0 : State} {S : PS} {y : Nat → Nat} {dE mi : Nat} {g : MS} {c0 : CS} {n c9 d9 ob : Nat} {f : Nat → Nat} {p0 : Int32} (hC : CR S y dE g c0) (hE : EnvC dE mi B s0) (hEx : EnvX B s0) (hls : l.stackTraces = false) (hCB : CanB c0 g n) (hH : CanH c0 g n) (hG : GInv g n f c9 d9) (hc : c9 < 512) (hob : IsAt S 14 ob) (hon : aN S ob = 1)  : KI l yL_tick wsL_tick ({ frames := 9, cells := 1, slots := 6, locals := 198 }) D cy B s0 [.ref (y 0), .int p0] S (fun r S2 => WP S S2 y dE ob (mTick g n p0) n ∧ r = (mTick g n p0).2.2 1100) 1 6 := by
  refine k_bodyW (own := RL) (cc := cL_tick) (maxL := 3) (ret := (some .int)) (hh := [(0, 5, 8, 13)]) rfl (by decide) rfl (Nat.le_of_ble_eq_true rfl) ?_
  intro p e s m below meth c C hml hr hlk htb hB hW ls hl
  obtain ⟨hx, hb, hts, hown, hK, hEn⟩ := id C
  have hS : va_S (Aw B) s.heap s.heap [] := va_S.rf
  have hl : lv_has ls 3 [(0, .ref (y 0)), (1, .int p0)] := hl
  have hm := hG.b.mo
  have h7 := hC.1.lay.k7
  by_cases z9 : 1 ≤ p0 ∧ p0 ≤ 5000
  · refine lv_aload_n hx hb dL_tick_0 rfl (lv_at hl 0 rfl) ?_
    refine lv_iload_n hx hb dL_tick_1 rfl (lv_at hl 1 rfl) ?_
    refine k_callVv (As := [.int p0]) (rest := []) C hml (c_X10_tick (g := iF g 1100 0) hC.f0 hE hG.a.n3 hCB.f0 hG.f0.a.bi (tick_pre hG.f0 hc z9).1 (tick_pre hG.f0 hc z9).2 z9) (cwV 1 hts gL_tick_X10_tick rfl rfl rfl (by decide +kernel) ⟨by decide, by decide⟩) hW hS hB (hC.1.lay.k0).1 (pAt_10 (hC.1.lay.k0).2) rfl rfl hl.1 rfl (Nat.le_of_ble_eq_true rfl) dL_tick_2 ⟨Nat.le_of_ble_eq_true rfl, Nat.le_of_ble_eq_true rfl⟩ (fun S1 H locs hp9 hW hS => ?_)
    obtain ⟨c2, f9, k9, b9, p9⟩ := hp9
    refine lv_goto (tgt := 11) hx hb dL_tick_5 (by decide) ?_
    refine lv_iconst (v := 0) hx hb dL_tick_11 (by decide) ?_
    exact k_iret C hr hlk hW hS hB (wp_tick z9 hC.1.lay.k7 hob hon hH hG hc f9 k9 b9 p9) (Nat.le_of_ble_eq_true rfl) (Nat.le_of_ble_eq_true rfl) dL_tick_12
  · refine lv_aload_n hx hb dL_tick_0 rfl (lv_at hl 0 rfl) ?_
    refine lv_iload_n hx hb dL_tick_1 rfl (lv_at hl 1 rfl) ?_
    refine k_callVC (As := [.int p0]) (rest := []) (x := ⟨0, 5, 8, 13⟩) C hml (c_X10_tick_x hEx hls hC.1.lay z9) (cwV 1 hts gL_tick_X10_tick rfl rfl rfl (by decide +kernel) ⟨by decide, by decide⟩) hW hS hB (hC.1.lay.k0).1 (pAt_10 (hC.1.lay.k0).2) rfl rfl hl.1 rfl (Nat.le_of_ble_eq_true rfl) dL_tick_2 ⟨Nat.le_of_ble_eq_true rfl, Nat.le_of_ble_eq_true rfl⟩ htb (by decide) (by decide) (hts (.classLink RL 13 IAE) (by decide +kernel)) (hEx.c0 hEn) (fun q9 H locs hW hS => ?_)
    refine lv_astore_n (lv' := [(2, .ref q9), (0, .ref (y 0)), (1, .int p0)]) hx hb dL_tick_8 rfl hl (by decide) rfl (fun ls hl => ?_)
    refine lv_iconst (v := 1) hx hb dL_tick_9 (by decide) ?_
    exact k_iret C hr hlk hW hS hB (wp_x (by rw [mTick, if_neg z9]) hon hC hCB hH) (Nat.le_of_ble_eq_true rfl) (Nat.le_of_ble_eq_true rfl) dL_tick_10
set_option maxRecDepth 100000 in
set_option maxHeartbeats 1000000 in
theorem c_L_take {l : Launch} {D : va_G} {cy : Nat → ClassId} {B : Nat} {s0 : State} {S : PS} {y : Nat → Nat} {dE mi : Nat} {g : MS} {c0 : CS} {n c9 d9 ob : Nat} {f : Nat → Nat} {p0 p1 p2 : Int32} (hC : CR S y dE g c0) (hE : EnvC dE mi B s0) (hEx : EnvX B s0) (hls : l.stackTraces = false) (hCB : CanB c0 g n) (hH : CanH c0 g n) (hG : GInv g n f c9 d9) (hc : c9 < 512) (hob : IsAt S 14 ob) (hon : aN S ob = 1)  : KI l yL_take wsL_take ({ frames := 9, cells := 1, slots := 6, locals := 201 }) D cy B s0 [.ref (y 0), .int p0, .int p1, .int p2, .ref ob] S (fun r S2 => WP S S2 y dE ob ((mTake g n p0 p1 p2).1) n ∧ r = ((mTake g n p0 p1 p2).1).2.2 1100 ∧ (r = 0 → aJ S2 ob 0 = ((mTake g n p0 p1 p2).2).toInt64)) 1 6 := by
  refine k_bodyW (own := RL) (cc := cL_take) (maxL := 6) (ret := (some .int)) (hh := [(0, 19, 22, 13)]) rfl (by decide) rfl (Nat.le_of_ble_eq_true rfl) ?_
  intro p e s m below meth c C hml hr hlk htb hB hW ls hl
  obtain ⟨hx, hb, hts, hown, hK, hEn⟩ := id C
  have hS : va_S (Aw B) s.heap s.heap [] := va_S.rf
  have hl : lv_has ls 6 [(0, .ref (y 0)), (1, .int p0), (2, .int p1), (3, .int p2), (4, .ref ob)] := hl
  have hm := hG.b.mo
  have h7 := hC.1.lay.k7
  by_cases z9 : ((0 ≤ p0 ∧ p0 ≤ 5) ∧ (0 ≤ p1 ∧ p1 ≤ 7)) ∧ (1 ≤ p2 ∧ p2 ≤ 10000)
  · obtain ⟨gt, hg, e_p0⟩ := nI_lim (M := 5) (n := 5) (by decide) z9.1.1
    have z8_p0 := z9
    subst e_p0
    obtain ⟨kk, hk8, e_p1⟩ := nI_lim (M := 7) (n := 7) (by decide) z9.1.2
    have z8_p1 := z9
    subst e_p1
    refine lv_aload hx hb dL_take_0 (lv_at hl 4 rfl) ?_
    refine lv_iconst (v := 0) hx hb dL_take_2 (by decide) ?_
    refine lv_aload_n hx hb dL_take_3 rfl (lv_at hl 0 rfl) ?_
    refine lv_iload_n hx hb dL_take_4 rfl (lv_at hl 1 rfl) ?_
    refine lv_iload_n hx hb dL_take_5 rfl (lv_at hl 2 rfl) ?_
    refine lv_iload_n hx hb dL_take_6 rfl (lv_at hl 3 rfl) ?_
    refine k_callVi (As := [.int (nI gt), .int (nI kk), .int p2]) (rest := [.int 0, .ref ob]) C hml (c_X10_take (g := iF g 1100 0) hC.f0 hE hg hk8 hG.a.n3 ((hH.same rfl rfl : CanH c0 (iF g 1100 0) n) gt kk hg hk8) (hG.f0.c.hok kk hg) (hG.f0.c.ht kk hg) (hG.f0.a.ct (Nat.le_of_lt hc) (by omega)) z9.2) (cwV 3 hts gL_take_X10_take rfl rfl rfl (by decide +kernel) ⟨by decide, by decide⟩) hW hS hB (hC.1.lay.k0).1 (pAt_10 (hC.1.lay.k0).2) rfl rfl hl.1 rfl (Nat.le_of_ble_eq_true rfl) dL_take_7 ⟨Nat.le_of_ble_eq_true rfl, Nat.le_of_ble_eq_true rfl⟩ (fun r9 S1 H locs hp9 hW hS => ?_)
    obtain ⟨c2, f9, k9, d8, e9⟩ := hp9
    subst e9
    have q8 := wp_take z9 rfl rfl hg hk8 hC.1.lay.k7 hob hon hCB hH hG f9 k9 d8
    have hob9 : IsAt S1 14 ob := q8.1.elim (fun _ z => z.1.1 _ _ hob)
    have hon9 : aN S1 ob = 1 := q8.1.elim (fun _ z => z.2.1)
    refine lv_if_eq (tgt := 17) hx hb dL_take_10 (by decide) (fun c_10 => ?_) (fun c_10 => ?_)
    · refine lv_lconst (v := 0) hx hb dL_take_17 (by decide) ?_
      refine a_Jstore C hW hS (j := 0) hob9 hon9 rfl (by omega) (by omega) dL_take_18 (fun S2 H locs e1 hW hS => ?_)
      subst e1
      refine lv_goto (tgt := 26) hx hb dL_take_19 (by decide) ?_
      refine lv_iconst (v := 0) hx hb dL_take_26 (by decide) ?_
      exact k_iret C hr hlk hW hS hB ⟨q8.1.st, q8.2.1, fun _ => tJ_0.trans (by rw [← q8.2.2, c_10]; rfl)⟩ (Nat.le_of_ble_eq_true rfl) (Nat.le_of_ble_eq_true rfl) dL_take_27
    · refine lv_lconst (v := 1) hx hb dL_take_13 (by decide) ?_
      refine lv_goto (tgt := 18) hx hb dL_take_14 (by decide) ?_
      refine a_Jstore C hW hS (j := 0) hob9 hon9 rfl (by omega) (by omega) dL_take_18 (fun S3 H locs e1 hW hS => ?_)
      subst e1
      refine lv_goto (tgt := 26) hx hb dL_take_19 (by decide) ?_
      refine lv_iconst (v := 0) hx hb dL_take_26 (by decide) ?_
      exact k_iret C hr hlk hW hS hB ⟨q8.1.st, q8.2.1, fun _ => tJ_0.trans (by rw [← q8.2.2, (mTkZ _ _ _ _ _).resolve_left c_10]; rfl)⟩ (Nat.le_of_ble_eq_true rfl) (Nat.le_of_ble_eq_true rfl) dL_take_27
  · refine lv_aload hx hb dL_take_0 (lv_at hl 4 rfl) ?_
    refine lv_iconst (v := 0) hx hb dL_take_2 (by decide) ?_
    refine lv_aload_n hx hb dL_take_3 rfl (lv_at hl 0 rfl) ?_
    refine lv_iload_n hx hb dL_take_4 rfl (lv_at hl 1 rfl) ?_
    refine lv_iload_n hx hb dL_take_5 rfl (lv_at hl 2 rfl) ?_
    refine lv_iload_n hx hb dL_take_6 rfl (lv_at hl 3 rfl) ?_
    refine k_callVC (As := [.int p0, .int p1, .int p2]) (rest := [.int 0, .ref ob]) (x := ⟨0, 19, 22, 13⟩) C hml (c_X10_take_x hEx hls hC.1.lay z9) (cwV 3 hts gL_take_X10_take rfl rfl rfl (by decide +kernel) ⟨by decide, by decide⟩) hW hS hB (hC.1.lay.k0).1 (pAt_10 (hC.1.lay.k0).2) rfl rfl hl.1 rfl (Nat.le_of_ble_eq_true rfl) dL_take_7 ⟨Nat.le_of_ble_eq_true rfl, Nat.le_of_ble_eq_true rfl⟩ htb (by decide) (by decide) (hts (.classLink RL 13 IAE) (by decide +kernel)) (hEx.c0 hEn) (fun q9 H locs hW hS => ?_)
    refine lv_astore (lv' := [(5, .ref q9), (0, .ref (y 0)), (1, .int p0), (2, .int p1), (3, .int p2), (4, .ref ob)]) hx hb dL_take_22 hl (by decide) rfl (fun ls hl => ?_)
    refine lv_iconst (v := 1) hx hb dL_take_24 (by decide) ?_
    exact k_iret C hr hlk hW hS hB (have q8 := wp_x (G := (mTake g n p0 p1 p2).1) (by rw [mTake, if_neg z9]) hon hC hCB hH; ⟨q8.1, q8.2, fun z7 => absurd z7 (by decide)⟩) (Nat.le_of_ble_eq_true rfl) (Nat.le_of_ble_eq_true rfl) dL_take_25
set_option maxRecDepth 100000 in
set_option maxHeartbeats 1000000 in
theorem c_L_work {l : Launch} {D : va_G} {cy : Nat → ClassId} {B : Nat} {s0 : State} {S : PS} {y : Nat → Nat} {dE mi : Nat} {g : MS} {c0 : CS} {n c9 d9 ob : Nat} {f : Nat → Nat} {p0 : Int32} (hC : CR S y dE g c0) (hE : EnvC dE mi B s0) (hEx : EnvX B s0) (hls : l.stackTraces = false) (hCB : CanB c0 g n) (hH : CanH c0 g n) (hG : GInv g n f c9 d9) (hc : c9 < 512) (hob : IsAt S 14 ob) (hon : aN S ob = 1)  : KI l yL_work wsL_work ({ frames := 9, cells := 308, slots := 2464, locals := 201 }) D cy B s0 [.ref (y 0), .int p0, .ref ob] S (fun r S2 => WP S S2 y dE ob ((mWork g n p0).1) n ∧ r = ((mWork g n p0).1).2.2 1100 ∧ (r = 0 → aJ S2 ob 0 = ((mWork g n p0).2).toInt64)) 308 2464 := by
  refine k_bodyW (own := RL) (cc := cL_work) (maxL := 4) (ret := (some .int)) (hh := [(0, 9, 12, 13)]) rfl (by decide) rfl (Nat.le_of_ble_eq_true rfl) ?_
  intro p e s m below meth c C hml hr hlk htb hB hW ls hl
  obtain ⟨hx, hb, hts, hown, hK, hEn⟩ := id C
  have hS : va_S (Aw B) s.heap s.heap [] := va_S.rf
  have hl : lv_has ls 4 [(0, .ref (y 0)), (1, .int p0), (2, .ref ob)] := hl
  have hm := hG.b.mo
  have h7 := hC.1.lay.k7
  by_cases z9 : 0 ≤ p0 ∧ p0 ≤ 5
  · obtain ⟨gt, hg, e_p0⟩ := nI_lim (M := 5) (n := 5) (by decide) z9
    have z8_p0 := z9
    subst e_p0
    refine lv_aload_n hx hb dL_work_0 rfl (lv_at hl 2 rfl) ?_
    refine lv_iconst (v := 0) hx hb dL_work_1 (by decide) ?_
    refine lv_aload_n hx hb dL_work_2 rfl (lv_at hl 0 rfl) ?_
    refine lv_iload_n hx hb dL_work_3 rfl (lv_at hl 1 rfl) ?_
    refine k_callVi (As := [.int (nI gt)]) (rest := [.int 0, .ref ob]) C hml (c_X10_work (g := iF g 1100 0) hC.f0 hE hg hG.a.n3 (hH.same rfl rfl) hm) (cwV 1 hts gL_work_X10_work rfl rfl rfl (by decide +kernel) ⟨by decide, by decide⟩) hW hS hB (hC.1.lay.k0).1 (pAt_10 (hC.1.lay.k0).2) rfl rfl hl.1 rfl (Nat.le_of_ble_eq_true rfl) dL_work_4 ⟨Nat.le_of_ble_eq_true rfl, Nat.le_of_ble_eq_true rfl⟩ (fun r9 S1 H locs hp9 hW hS => ?_)
    obtain ⟨c2, f9, k9, h9, q9, e8, e9⟩ := hp9
    have q8 := wp_work z9 rfl hg hC.1.lay.k7 hob hon hCB f9 k9 h9 q9 e8
    have hob9 : IsAt S1 14 ob := q8.1.elim (fun _ z => z.1.1 _ _ hob)
    have hon9 : aN S1 ob = 1 := q8.1.elim (fun _ z => z.2.1)
    refine lv_i2l (v := r9.toInt64) hx hb dL_work_7 rfl ?_
    refine a_Jstore C hW hS (j := 0) hob9 hon9 rfl (by omega) (by omega) dL_work_8 (fun S2 H locs e1 hW hS => ?_)
    subst e1
    refine lv_goto (tgt := 15) hx hb dL_work_9 (by decide) ?_
    refine lv_iconst (v := 0) hx hb dL_work_15 (by decide) ?_
    exact k_iret C hr hlk hW hS hB ⟨q8.1.st, q8.2.1, fun _ => tJ_0.trans (congrArg Int32.toInt64 (e9.trans q8.2.2))⟩ (Nat.le_of_ble_eq_true rfl) (Nat.le_of_ble_eq_true rfl) dL_work_16
  · refine lv_aload_n hx hb dL_work_0 rfl (lv_at hl 2 rfl) ?_
    refine lv_iconst (v := 0) hx hb dL_work_1 (by decide) ?_
    refine lv_aload_n hx hb dL_work_2 rfl (lv_at hl 0 rfl) ?_
    refine lv_iload_n hx hb dL_work_3 rfl (lv_at hl 1 rfl) ?_
    refine k_callVC (As := [.int p0]) (rest := [.int 0, .ref ob]) (x := ⟨0, 9, 12, 13⟩) C hml (c_X10_work_x hEx hls hC.1.lay z9) (cwV 1 hts gL_work_X10_work rfl rfl rfl (by decide +kernel) ⟨by decide, by decide⟩) hW hS hB (hC.1.lay.k0).1 (pAt_10 (hC.1.lay.k0).2) rfl rfl hl.1 rfl (Nat.le_of_ble_eq_true rfl) dL_work_4 ⟨Nat.le_of_ble_eq_true rfl, Nat.le_of_ble_eq_true rfl⟩ htb (by decide) (by decide) (hts (.classLink RL 13 IAE) (by decide +kernel)) (hEx.c0 hEn) (fun q9 H locs hW hS => ?_)
    refine lv_astore_n (lv' := [(3, .ref q9), (0, .ref (y 0)), (1, .int p0), (2, .ref ob)]) hx hb dL_work_12 rfl hl (by decide) rfl (fun ls hl => ?_)
    refine lv_iconst (v := 1) hx hb dL_work_13 (by decide) ?_
    exact k_iret C hr hlk hW hS hB (have q8 := wp_x (G := (mWork g n p0).1) (by rw [mWork, if_neg z9]) hon hC hCB hH; ⟨q8.1, q8.2, fun z7 => absurd z7 (by decide)⟩) (Nat.le_of_ble_eq_true rfl) (Nat.le_of_ble_eq_true rfl) dL_work_14
set_option maxRecDepth 100000 in
set_option maxHeartbeats 1000000 in
theorem c_L_restart {l : Launch} {D : va_G} {cy : Nat → ClassId} {B : Nat} {s0 : State} {S : PS} {y : Nat → Nat} {dE mi : Nat} {g : MS} {c0 : CS} {n c9 d9 ob : Nat} {f : Nat → Nat} {p0 : Int32} (hC : CR S y dE g c0) (hE : EnvC dE mi B s0) (hEx : EnvX B s0) (hls : l.stackTraces = false) (hCB : CanB c0 g n) (hH : CanH c0 g n) (hG : GInv g n f c9 d9) (hc : c9 < 512) (hob : IsAt S 14 ob) (hon : aN S ob = 1)  : KI l yL_restart wsL_restart ({ frames := 9, cells := 1, slots := 6, locals := 145 }) D cy B s0 [.ref (y 0), .int p0, .ref ob] S (fun r S2 => WP S S2 y dE ob ((mRestart g n p0).1) n ∧ r = ((mRestart g n p0).1).2.2 1100 ∧ (r = 0 → aJ S2 ob 0 = ((mRestart g n p0).2).toInt64)) 1 6 := by
  refine k_bodyW (own := RL) (cc := cL_restart) (maxL := 4) (ret := (some .int)) (hh := [(0, 9, 12, 13)]) rfl (by decide) rfl (Nat.le_of_ble_eq_true rfl) ?_
  intro p e s m below meth c C hml hr hlk htb hB hW ls hl
  obtain ⟨hx, hb, hts, hown, hK, hEn⟩ := id C
  have hS : va_S (Aw B) s.heap s.heap [] := va_S.rf
  have hl : lv_has ls 4 [(0, .ref (y 0)), (1, .int p0), (2, .ref ob)] := hl
  have hm := hG.b.mo
  have h7 := hC.1.lay.k7
  by_cases z9 : 0 ≤ p0 ∧ p0 ≤ 5
  · obtain ⟨gt, hg, e_p0⟩ := nI_lim (M := 5) (n := 5) (by decide) z9
    have z8_p0 := z9
    subst e_p0
    refine lv_aload_n hx hb dL_restart_0 rfl (lv_at hl 2 rfl) ?_
    refine lv_iconst (v := 0) hx hb dL_restart_1 (by decide) ?_
    refine lv_aload_n hx hb dL_restart_2 rfl (lv_at hl 0 rfl) ?_
    refine lv_iload_n hx hb dL_restart_3 rfl (lv_at hl 1 rfl) ?_
    refine k_callVi (As := [.int (nI gt)]) (rest := [.int 0, .ref ob]) C hml (c_X10_restart (g := iF g 1100 0) hC.f0 hE hg hG.a.n3 (hH.same rfl rfl)) (cwV 1 hts gL_restart_X10_restart rfl rfl rfl (by decide +kernel) ⟨by decide, by decide⟩) hW hS hB (hC.1.lay.k0).1 (pAt_10 (hC.1.lay.k0).2) rfl rfl hl.1 rfl (Nat.le_of_ble_eq_true rfl) dL_restart_4 ⟨Nat.le_of_ble_eq_true rfl, Nat.le_of_ble_eq_true rfl⟩ (fun r9 S1 H locs hp9 hW hS => ?_)
    obtain ⟨c2, f9, k9, h9, q9, e8, e9⟩ := hp9
    have q8 := wp_restart z9 rfl hg hC.1.lay.k7 hob hon hCB f9 k9 h9 q9 e8
    have hob9 : IsAt S1 14 ob := q8.1.elim (fun _ z => z.1.1 _ _ hob)
    have hon9 : aN S1 ob = 1 := q8.1.elim (fun _ z => z.2.1)
    refine lv_i2l (v := r9.toInt64) hx hb dL_restart_7 rfl ?_
    refine a_Jstore C hW hS (j := 0) hob9 hon9 rfl (by omega) (by omega) dL_restart_8 (fun S2 H locs e1 hW hS => ?_)
    subst e1
    refine lv_goto (tgt := 15) hx hb dL_restart_9 (by decide) ?_
    refine lv_iconst (v := 0) hx hb dL_restart_15 (by decide) ?_
    exact k_iret C hr hlk hW hS hB ⟨q8.1.st, q8.2.1, fun _ => tJ_0.trans (congrArg Int32.toInt64 (e9.trans q8.2.2))⟩ (Nat.le_of_ble_eq_true rfl) (Nat.le_of_ble_eq_true rfl) dL_restart_16
  · refine lv_aload_n hx hb dL_restart_0 rfl (lv_at hl 2 rfl) ?_
    refine lv_iconst (v := 0) hx hb dL_restart_1 (by decide) ?_
    refine lv_aload_n hx hb dL_restart_2 rfl (lv_at hl 0 rfl) ?_
    refine lv_iload_n hx hb dL_restart_3 rfl (lv_at hl 1 rfl) ?_
    refine k_callVC (As := [.int p0]) (rest := [.int 0, .ref ob]) (x := ⟨0, 9, 12, 13⟩) C hml (c_X10_restart_x hEx hls hC.1.lay z9) (cwV 1 hts gL_restart_X10_restart rfl rfl rfl (by decide +kernel) ⟨by decide, by decide⟩) hW hS hB (hC.1.lay.k0).1 (pAt_10 (hC.1.lay.k0).2) rfl rfl hl.1 rfl (Nat.le_of_ble_eq_true rfl) dL_restart_4 ⟨Nat.le_of_ble_eq_true rfl, Nat.le_of_ble_eq_true rfl⟩ htb (by decide) (by decide) (hts (.classLink RL 13 IAE) (by decide +kernel)) (hEx.c0 hEn) (fun q9 H locs hW hS => ?_)
    refine lv_astore_n (lv' := [(3, .ref q9), (0, .ref (y 0)), (1, .int p0), (2, .ref ob)]) hx hb dL_restart_12 rfl hl (by decide) rfl (fun ls hl => ?_)
    refine lv_iconst (v := 1) hx hb dL_restart_13 (by decide) ?_
    exact k_iret C hr hlk hW hS hB (have q8 := wp_x (G := (mRestart g n p0).1) (by rw [mRestart, if_neg z9]) hon hC hCB hH; ⟨q8.1, q8.2, fun z7 => absurd z7 (by decide)⟩) (Nat.le_of_ble_eq_true rfl) (Nat.le_of_ble_eq_true rfl) dL_restart_14
set_option maxRecDepth 100000 in
set_option maxHeartbeats 1000000 in
theorem c_L_root {l : Launch} {D : va_G} {cy : Nat → ClassId} {B : Nat} {s0 : State} {S : PS} {y : Nat → Nat} {dE mi : Nat} {g : MS} {c0 : CS} {n c9 d9 ob : Nat} {f : Nat → Nat} {p0 p1 : Int32} (hC : CR S y dE g c0) (hE : EnvC dE mi B s0) (hEx : EnvX B s0) (hls : l.stackTraces = false) (hCB : CanB c0 g n) (hH : CanH c0 g n) (hG : GInv g n f c9 d9) (hc : c9 < 512) (hob : IsAt S 14 ob) (hon : aN S ob = 1)  : KI l yL_root wsL_root ({ frames := 9, cells := 1, slots := 6, locals := 147 }) D cy B s0 [.ref (y 0), .int p0, .int p1, .ref ob] S (fun r S2 => WP S S2 y dE ob ((mRootQ g n p0 p1).1) n ∧ r = ((mRootQ g n p0 p1).1).2.2 1100 ∧ (r = 0 → aJ S2 ob 0 = ((mRootQ g n p0 p1).2).toInt64)) 1 6 := by
  refine k_bodyW (own := RL) (cc := cL_root) (maxL := 5) (ret := (some .int)) (hh := [(0, 10, 13, 13)]) rfl (by decide) rfl (Nat.le_of_ble_eq_true rfl) ?_
  intro p e s m below meth c C hml hr hlk htb hB hW ls hl
  obtain ⟨hx, hb, hts, hown, hK, hEn⟩ := id C
  have hS : va_S (Aw B) s.heap s.heap [] := va_S.rf
  have hl : lv_has ls 5 [(0, .ref (y 0)), (1, .int p0), (2, .int p1), (3, .ref ob)] := hl
  have hm := hG.b.mo
  have h7 := hC.1.lay.k7
  by_cases z9 : (0 ≤ p0 ∧ p0 ≤ 7) ∧ (0 ≤ p1 ∧ p1 ≤ 3)
  · obtain ⟨k, hk8, e_p0⟩ := nI_lim (M := 7) (n := 7) (by decide) z9.1
    have z8_p0 := z9
    subst e_p0
    obtain ⟨w9, hw4, e_p1⟩ := nI_lim (M := 3) (n := 3) (by decide) z9.2
    have z8_p1 := z9
    subst e_p1
    refine lv_aload_n hx hb dL_root_0 rfl (lv_at hl 3 rfl) ?_
    refine lv_iconst (v := 0) hx hb dL_root_1 (by decide) ?_
    refine lv_aload_n hx hb dL_root_2 rfl (lv_at hl 0 rfl) ?_
    refine lv_iload_n hx hb dL_root_3 rfl (lv_at hl 1 rfl) ?_
    refine lv_iload_n hx hb dL_root_4 rfl (lv_at hl 2 rfl) ?_
    refine k_callVi (As := [.int (nI k), .int (nI w9)]) (rest := [.int 0, .ref ob]) C hml (c_X10_root (g := iF g 1100 0) hC.f0 hE hk8 hw4 hCB.f0 hG.f0.a.bi) (cwV 2 hts gL_root_X10_root rfl rfl rfl (by decide +kernel) ⟨by decide, by decide⟩) hW hS hB (hC.1.lay.k0).1 (pAt_10 (hC.1.lay.k0).2) rfl rfl hl.1 rfl (Nat.le_of_ble_eq_true rfl) dL_root_5 ⟨Nat.le_of_ble_eq_true rfl, Nat.le_of_ble_eq_true rfl⟩ (fun r9 S1 H locs hp9 hW hS => ?_)
    obtain ⟨e8, e9⟩ := hp9
    rw [e8] at hW
    have q7 := wp_q (G := (mRootQ g n (nI k) (nI w9)).1) (by rw [mRootQ, if_pos z9]) hon hC hCB hH
    have q8 := And.intro q7.1 (And.intro q7.2 (show mRootW (iF g 1100 0) n k (nI w9) = (mRootQ g n (nI k) (nI w9)).2 by rw [mRootQ, if_pos z9, nI_clamp (by omega)]))
    have hob9 := hob
    have hon9 := hon
    refine lv_i2l (v := r9.toInt64) hx hb dL_root_8 rfl ?_
    refine a_Jstore C hW hS (j := 0) hob9 hon9 rfl (by omega) (by omega) dL_root_9 (fun S2 H locs e1 hW hS => ?_)
    subst e1
    refine lv_goto (tgt := 17) hx hb dL_root_10 (by decide) ?_
    refine lv_iconst (v := 0) hx hb dL_root_17 (by decide) ?_
    exact k_iret C hr hlk hW hS hB ⟨q8.1.st, q8.2.1, fun _ => tJ_0.trans (congrArg Int32.toInt64 (e9.trans q8.2.2))⟩ (Nat.le_of_ble_eq_true rfl) (Nat.le_of_ble_eq_true rfl) dL_root_18
  · refine lv_aload_n hx hb dL_root_0 rfl (lv_at hl 3 rfl) ?_
    refine lv_iconst (v := 0) hx hb dL_root_1 (by decide) ?_
    refine lv_aload_n hx hb dL_root_2 rfl (lv_at hl 0 rfl) ?_
    refine lv_iload_n hx hb dL_root_3 rfl (lv_at hl 1 rfl) ?_
    refine lv_iload_n hx hb dL_root_4 rfl (lv_at hl 2 rfl) ?_
    refine k_callVC (As := [.int p0, .int p1]) (rest := [.int 0, .ref ob]) (x := ⟨0, 10, 13, 13⟩) C hml (c_X10_root_x hEx hls hC.1.lay z9) (cwV 2 hts gL_root_X10_root rfl rfl rfl (by decide +kernel) ⟨by decide, by decide⟩) hW hS hB (hC.1.lay.k0).1 (pAt_10 (hC.1.lay.k0).2) rfl rfl hl.1 rfl (Nat.le_of_ble_eq_true rfl) dL_root_5 ⟨Nat.le_of_ble_eq_true rfl, Nat.le_of_ble_eq_true rfl⟩ htb (by decide) (by decide) (hts (.classLink RL 13 IAE) (by decide +kernel)) (hEx.c0 hEn) (fun q9 H locs hW hS => ?_)
    refine lv_astore (lv' := [(4, .ref q9), (0, .ref (y 0)), (1, .int p0), (2, .int p1), (3, .ref ob)]) hx hb dL_root_13 hl (by decide) rfl (fun ls hl => ?_)
    refine lv_iconst (v := 1) hx hb dL_root_15 (by decide) ?_
    exact k_iret C hr hlk hW hS hB (have q8 := wp_x (G := (mRootQ g n p0 p1).1) (by rw [mRootQ, if_neg z9]) hon hC hCB hH; ⟨q8.1, q8.2, fun z7 => absurd z7 (by decide)⟩) (Nat.le_of_ble_eq_true rfl) (Nat.le_of_ble_eq_true rfl) dL_root_16
set_option maxRecDepth 100000 in
set_option maxHeartbeats 1000000 in
theorem c_L_gate {l : Launch} {D : va_G} {cy : Nat → ClassId} {B : Nat} {s0 : State} {S : PS} {y : Nat → Nat} {dE mi : Nat} {g : MS} {c0 : CS} {n c9 d9 ob : Nat} {f : Nat → Nat} {p0 p1 p2 : Int32} (hC : CR S y dE g c0) (hE : EnvC dE mi B s0) (hEx : EnvX B s0) (hls : l.stackTraces = false) (hCB : CanB c0 g n) (hH : CanH c0 g n) (hG : GInv g n f c9 d9) (hc : c9 < 512) (hob : IsAt S 14 ob) (hon : aN S ob = 1)  : KI l yL_gate wsL_gate ({ frames := 9, cells := 1, slots := 6, locals := 148 }) D cy B s0 [.ref (y 0), .int p0, .int p1, .int p2, .ref ob] S (fun r S2 => WP S S2 y dE ob ((mGateQ g n p0 p1 p2).1) n ∧ r = ((mGateQ g n p0 p1 p2).1).2.2 1100 ∧ (r = 0 → aJ S2 ob 0 = ((mGateQ g n p0 p1 p2).2).toInt64)) 1 6 := by
  refine k_bodyW (own := RL) (cc := cL_gate) (maxL := 6) (ret := (some .int)) (hh := [(0, 12, 15, 13)]) rfl (by decide) rfl (Nat.le_of_ble_eq_true rfl) ?_
  intro p e s m below meth c C hml hr hlk htb hB hW ls hl
  obtain ⟨hx, hb, hts, hown, hK, hEn⟩ := id C
  have hS : va_S (Aw B) s.heap s.heap [] := va_S.rf
  have hl : lv_has ls 6 [(0, .ref (y 0)), (1, .int p0), (2, .int p1), (3, .int p2), (4, .ref ob)] := hl
  have hm := hG.b.mo
  have h7 := hC.1.lay.k7
  by_cases z9 : ((0 ≤ p0 ∧ p0 ≤ 5) ∧ (0 ≤ p1 ∧ p1 ≤ 7)) ∧ (0 ≤ p2 ∧ p2 ≤ 6)
  · obtain ⟨gt, hg, e_p0⟩ := nI_lim (M := 5) (n := 5) (by decide) z9.1.1
    have z8_p0 := z9
    subst e_p0
    obtain ⟨kk, hk8, e_p1⟩ := nI_lim (M := 7) (n := 7) (by decide) z9.1.2
    have z8_p1 := z9
    subst e_p1
    obtain ⟨w9, hw7, e_p2⟩ := nI_lim (M := 6) (n := 6) (by decide) z9.2
    have z8_p2 := z9
    subst e_p2
    refine lv_aload hx hb dL_gate_0 (lv_at hl 4 rfl) ?_
    refine lv_iconst (v := 0) hx hb dL_gate_2 (by decide) ?_
    refine lv_aload_n hx hb dL_gate_3 rfl (lv_at hl 0 rfl) ?_
    refine lv_iload_n hx hb dL_gate_4 rfl (lv_at hl 1 rfl) ?_
    refine lv_iload_n hx hb dL_gate_5 rfl (lv_at hl 2 rfl) ?_
    refine lv_iload_n hx hb dL_gate_6 rfl (lv_at hl 3 rfl) ?_
    refine k_callVi (As := [.int (nI gt), .int (nI kk), .int (nI w9)]) (rest := [.int 0, .ref ob]) C hml (c_X10_gate (g := iF g 1100 0) hC.f0 hE hg hk8 hw7 ((hH.same rfl rfl : CanH c0 (iF g 1100 0) n) gt kk hg hk8)) (cwV 3 hts gL_gate_X10_gate rfl rfl rfl (by decide +kernel) ⟨by decide, by decide⟩) hW hS hB (hC.1.lay.k0).1 (pAt_10 (hC.1.lay.k0).2) rfl rfl hl.1 rfl (Nat.le_of_ble_eq_true rfl) dL_gate_7 ⟨Nat.le_of_ble_eq_true rfl, Nat.le_of_ble_eq_true rfl⟩ (fun r9 S1 H locs hp9 hW hS => ?_)
    obtain ⟨e8, e9⟩ := hp9
    rw [e8] at hW
    have q7 := wp_q (G := (mGateQ g n (nI gt) (nI kk) (nI w9)).1) (by rw [mGateQ, if_pos z9]) hon hC hCB hH
    have q8 := And.intro q7.1 (And.intro q7.2 (show mGateW (iF g 1100 0) n gt kk w9 = (mGateQ g n (nI gt) (nI kk) (nI w9)).2 by rw [mGateQ, if_pos z9, nI_clamp (by omega), nI_clamp (by omega), nI_clamp (by omega)]))
    have hob9 := hob
    have hon9 := hon
    refine lv_i2l (v := r9.toInt64) hx hb dL_gate_10 rfl ?_
    refine a_Jstore C hW hS (j := 0) hob9 hon9 rfl (by omega) (by omega) dL_gate_11 (fun S2 H locs e1 hW hS => ?_)
    subst e1
    refine lv_goto (tgt := 19) hx hb dL_gate_12 (by decide) ?_
    refine lv_iconst (v := 0) hx hb dL_gate_19 (by decide) ?_
    exact k_iret C hr hlk hW hS hB ⟨q8.1.st, q8.2.1, fun _ => tJ_0.trans (congrArg Int32.toInt64 (e9.trans q8.2.2))⟩ (Nat.le_of_ble_eq_true rfl) (Nat.le_of_ble_eq_true rfl) dL_gate_20
  · refine lv_aload hx hb dL_gate_0 (lv_at hl 4 rfl) ?_
    refine lv_iconst (v := 0) hx hb dL_gate_2 (by decide) ?_
    refine lv_aload_n hx hb dL_gate_3 rfl (lv_at hl 0 rfl) ?_
    refine lv_iload_n hx hb dL_gate_4 rfl (lv_at hl 1 rfl) ?_
    refine lv_iload_n hx hb dL_gate_5 rfl (lv_at hl 2 rfl) ?_
    refine lv_iload_n hx hb dL_gate_6 rfl (lv_at hl 3 rfl) ?_
    refine k_callVC (As := [.int p0, .int p1, .int p2]) (rest := [.int 0, .ref ob]) (x := ⟨0, 12, 15, 13⟩) C hml (c_X10_gate_x hEx hls hC.1.lay z9) (cwV 3 hts gL_gate_X10_gate rfl rfl rfl (by decide +kernel) ⟨by decide, by decide⟩) hW hS hB (hC.1.lay.k0).1 (pAt_10 (hC.1.lay.k0).2) rfl rfl hl.1 rfl (Nat.le_of_ble_eq_true rfl) dL_gate_7 ⟨Nat.le_of_ble_eq_true rfl, Nat.le_of_ble_eq_true rfl⟩ htb (by decide) (by decide) (hts (.classLink RL 13 IAE) (by decide +kernel)) (hEx.c0 hEn) (fun q9 H locs hW hS => ?_)
    refine lv_astore (lv' := [(5, .ref q9), (0, .ref (y 0)), (1, .int p0), (2, .int p1), (3, .int p2), (4, .ref ob)]) hx hb dL_gate_15 hl (by decide) rfl (fun ls hl => ?_)
    refine lv_iconst (v := 1) hx hb dL_gate_17 (by decide) ?_
    exact k_iret C hr hlk hW hS hB (have q8 := wp_x (G := (mGateQ g n p0 p1 p2).1) (by rw [mGateQ, if_neg z9]) hon hC hCB hH; ⟨q8.1, q8.2, fun z7 => absurd z7 (by decide)⟩) (Nat.le_of_ble_eq_true rfl) (Nat.le_of_ble_eq_true rfl) dL_gate_18
set_option maxRecDepth 100000 in
set_option maxHeartbeats 1000000 in
theorem c_L_message {l : Launch} {D : va_G} {cy : Nat → ClassId} {B : Nat} {s0 : State} {S : PS} {y : Nat → Nat} {dE mi : Nat} {g : MS} {c0 : CS} {n c9 d9 ob : Nat} {f : Nat → Nat} {p0 p1 : Int32} (hC : CR S y dE g c0) (hE : EnvC dE mi B s0) (hEx : EnvX B s0) (hls : l.stackTraces = false) (hCB : CanB c0 g n) (hH : CanH c0 g n) (hG : GInv g n f c9 d9) (hc : c9 < 512) (hob : IsAt S 14 ob) (hon : aN S ob = 1)  : KI l yL_message wsL_message ({ frames := 8, cells := 1, slots := 6, locals := 127 }) D cy B s0 [.ref (y 0), .int p0, .int p1, .ref ob] S (fun r S2 => WP S S2 y dE ob ((mMessage g p0 p1).1) n ∧ r = ((mMessage g p0 p1).1).2.2 1100 ∧ (r = 0 → aJ S2 ob 0 = ((mMessage g p0 p1).2).toInt64)) 1 6 := by
  refine k_bodyW (own := RL) (cc := cL_message) (maxL := 5) (ret := (some .int)) (hh := [(0, 10, 13, 13)]) rfl (by decide) rfl (Nat.le_of_ble_eq_true rfl) ?_
  intro p e s m below meth c C hml hr hlk htb hB hW ls hl
  obtain ⟨hx, hb, hts, hown, hK, hEn⟩ := id C
  have hS : va_S (Aw B) s.heap s.heap [] := va_S.rf
  have hl : lv_has ls 5 [(0, .ref (y 0)), (1, .int p0), (2, .int p1), (3, .ref ob)] := hl
  have hm := hG.b.mo
  have h7 := hC.1.lay.k7
  by_cases z9 : mIsMsg g p0 ∧ (0 ≤ p1 ∧ p1 ≤ 6)
  · obtain ⟨q, b, hq, e_p0, hz, hM⟩ := isMsg_at hC hm z9.1
    subst e_p0
    obtain ⟨w9, hw7, e_p1⟩ := nI_lim (M := 6) (n := 6) (by decide) z9.2
    have z8_p1 := z9
    subst e_p1
    refine lv_aload_n hx hb dL_message_0 rfl (lv_at hl 3 rfl) ?_
    refine lv_iconst (v := 0) hx hb dL_message_1 (by decide) ?_
    refine lv_aload_n hx hb dL_message_2 rfl (lv_at hl 0 rfl) ?_
    refine lv_iload_n hx hb dL_message_3 rfl (lv_at hl 1 rfl) ?_
    refine lv_iload_n hx hb dL_message_4 rfl (lv_at hl 2 rfl) ?_
    refine k_callVi (As := [.int (nI q), .int (nI w9)]) (rest := [.int 0, .ref ob]) C hml (c_X10_message (g := iF g 1100 0) hC.f0 hE hm hq hz hw7 hM) (cwV 2 hts gL_message_X10_message rfl rfl rfl (by decide +kernel) ⟨by decide, by decide⟩) hW hS hB (hC.1.lay.k0).1 (pAt_10 (hC.1.lay.k0).2) rfl rfl hl.1 rfl (Nat.le_of_ble_eq_true rfl) dL_message_5 ⟨Nat.le_of_ble_eq_true rfl, Nat.le_of_ble_eq_true rfl⟩ (fun r9 S1 H locs hp9 hW hS => ?_)
    obtain ⟨e8, e9⟩ := hp9
    rw [e8] at hW
    have q7 := wp_q (G := (mMessage g (nI q) (nI w9)).1) (by rw [mMessage, if_pos z9]) hon hC hCB hH
    have q8 := And.intro q7.1 (And.intro q7.2 (show (if w9 = 0 then g.1 32 (8 * q) else if w9 = 1 then g.1 32 (8 * q + 1) else if w9 = 2 then g.1 32 (8 * q + 2) else if w9 = 3 then g.1 32 (8 * q + 3) else if w9 = 4 then g.1 32 (8 * q + 4) else if w9 = 5 then g.1 32 (8 * q + 5) else g.1 32 (8 * q + 6)) = (mMessage g (nI q) (nI w9)).2 by rw [mMessage, if_pos z9, nI_clamp (by have := hm.2; omega), nI_clamp (by have := hm.2; omega)]; exact msg_w hw7))
    have hob9 := hob
    have hon9 := hon
    refine lv_i2l (v := r9.toInt64) hx hb dL_message_8 rfl ?_
    refine a_Jstore C hW hS (j := 0) hob9 hon9 rfl (by omega) (by omega) dL_message_9 (fun S2 H locs e1 hW hS => ?_)
    subst e1
    refine lv_goto (tgt := 17) hx hb dL_message_10 (by decide) ?_
    refine lv_iconst (v := 0) hx hb dL_message_17 (by decide) ?_
    exact k_iret C hr hlk hW hS hB ⟨q8.1.st, q8.2.1, fun _ => tJ_0.trans (congrArg Int32.toInt64 (e9.trans q8.2.2))⟩ (Nat.le_of_ble_eq_true rfl) (Nat.le_of_ble_eq_true rfl) dL_message_18
  · refine lv_aload_n hx hb dL_message_0 rfl (lv_at hl 3 rfl) ?_
    refine lv_iconst (v := 0) hx hb dL_message_1 (by decide) ?_
    refine lv_aload_n hx hb dL_message_2 rfl (lv_at hl 0 rfl) ?_
    refine lv_iload_n hx hb dL_message_3 rfl (lv_at hl 1 rfl) ?_
    refine lv_iload_n hx hb dL_message_4 rfl (lv_at hl 2 rfl) ?_
    refine k_callVC (As := [.int p0, .int p1]) (rest := [.int 0, .ref ob]) (x := ⟨0, 10, 13, 13⟩) C hml (c_X10_message_x hEx hls hC hm z9) (cwV 2 hts gL_message_X10_message rfl rfl rfl (by decide +kernel) ⟨by decide, by decide⟩) hW hS hB (hC.1.lay.k0).1 (pAt_10 (hC.1.lay.k0).2) rfl rfl hl.1 rfl (Nat.le_of_ble_eq_true rfl) dL_message_5 ⟨Nat.le_of_ble_eq_true rfl, Nat.le_of_ble_eq_true rfl⟩ htb (by decide) (by decide) (hts (.classLink RL 13 IAE) (by decide +kernel)) (hEx.c0 hEn) (fun q9 H locs hW hS => ?_)
    refine lv_astore (lv' := [(4, .ref q9), (0, .ref (y 0)), (1, .int p0), (2, .int p1), (3, .ref ob)]) hx hb dL_message_13 hl (by decide) rfl (fun ls hl => ?_)
    refine lv_iconst (v := 1) hx hb dL_message_15 (by decide) ?_
    exact k_iret C hr hlk hW hS hB (have q8 := wp_x (G := (mMessage g p0 p1).1) (by rw [mMessage, if_neg z9]) hon hC hCB hH; ⟨q8.1, q8.2, fun z7 => absurd z7 (by decide)⟩) (Nat.le_of_ble_eq_true rfl) (Nat.le_of_ble_eq_true rfl) dL_message_16
set_option maxRecDepth 100000 in
set_option maxHeartbeats 1000000 in
theorem c_L_clock {l : Launch} {D : va_G} {cy : Nat → ClassId} {B : Nat} {s0 : State} {S : PS} {y : Nat → Nat} {dE mi : Nat} {g : MS} {c0 : CS} {n c9 d9 ob : Nat} {f : Nat → Nat} {p0 : Int32} (hC : CR S y dE g c0) (hE : EnvC dE mi B s0) (hEx : EnvX B s0) (hls : l.stackTraces = false) (hCB : CanB c0 g n) (hH : CanH c0 g n) (hG : GInv g n f c9 d9) (hc : c9 < 512) (hob : IsAt S 14 ob) (hon : aN S ob = 1)  : KI l yL_clock wsL_clock ({ frames := 9, cells := 1, slots := 6, locals := 145 }) D cy B s0 [.ref (y 0), .int p0, .ref ob] S (fun r S2 => WP S S2 y dE ob ((mClock g p0).1) n ∧ r = ((mClock g p0).1).2.2 1100 ∧ (r = 0 → aJ S2 ob 0 = ((mClock g p0).2).toInt64)) 1 6 := by
  refine k_bodyW (own := RL) (cc := cL_clock) (maxL := 4) (ret := (some .int)) (hh := [(0, 9, 12, 13)]) rfl (by decide) rfl (Nat.le_of_ble_eq_true rfl) ?_
  intro p e s m below meth c C hml hr hlk htb hB hW ls hl
  obtain ⟨hx, hb, hts, hown, hK, hEn⟩ := id C
  have hS : va_S (Aw B) s.heap s.heap [] := va_S.rf
  have hl : lv_has ls 4 [(0, .ref (y 0)), (1, .int p0), (2, .ref ob)] := hl
  have hm := hG.b.mo
  have h7 := hC.1.lay.k7
  by_cases z9 : (-1) ≤ p0 ∧ p0 ≤ 5
  · by_cases z8 : p0 < 0
    · have e_p0 : p0 = (-1) := neg1 z9.1 z8
      subst e_p0
      refine lv_aload_n hx hb dL_clock_0 rfl (lv_at hl 2 rfl) ?_
      refine lv_iconst (v := 0) hx hb dL_clock_1 (by decide) ?_
      refine lv_aload_n hx hb dL_clock_2 rfl (lv_at hl 0 rfl) ?_
      refine lv_iload_n hx hb dL_clock_3 rfl (lv_at hl 1 rfl) ?_
      refine k_callVi (As := [.int (-1)]) (rest := [.int 0, .ref ob]) C hml (c_X10_clock_r (g := iF g 1100 0) hC.f0 hE) (cwV 1 hts gL_clock_X10_clock rfl rfl rfl (by decide +kernel) ⟨by decide, by decide⟩) hW hS hB (hC.1.lay.k0).1 (pAt_10 (hC.1.lay.k0).2) rfl rfl hl.1 rfl (Nat.le_of_ble_eq_true rfl) dL_clock_4 ⟨Nat.le_of_ble_eq_true rfl, Nat.le_of_ble_eq_true rfl⟩ (fun r9 S1 H locs hp9 hW hS => ?_)
      obtain ⟨e8, e9⟩ := hp9
      rw [e8] at hW
      have q7 := wp_q (G := (mClock g (-1)).1) (by rw [mClock, if_pos z9]) hon hC hCB hH
      have q8 := And.intro q7.1 (And.intro q7.2 (show mClk (iF g 1100 0) 6 = (mClock g (-1)).2 by rw [mClock, if_pos z9, if_pos (show (-1 : Int32) < 0 by decide)]; rfl))
      have hob9 := hob
      have hon9 := hon
      refine lv_i2l (v := r9.toInt64) hx hb dL_clock_7 rfl ?_
      refine a_Jstore C hW hS (j := 0) hob9 hon9 rfl (by omega) (by omega) dL_clock_8 (fun S2 H locs e1 hW hS => ?_)
      subst e1
      refine lv_goto (tgt := 15) hx hb dL_clock_9 (by decide) ?_
      refine lv_iconst (v := 0) hx hb dL_clock_15 (by decide) ?_
      exact k_iret C hr hlk hW hS hB ⟨q8.1.st, q8.2.1, fun _ => tJ_0.trans (congrArg Int32.toInt64 (e9.trans q8.2.2))⟩ (Nat.le_of_ble_eq_true rfl) (Nat.le_of_ble_eq_true rfl) dL_clock_16
    · obtain ⟨i, hi, e_p0⟩ := nI_lim (M := 5) (n := 5) (by decide) ⟨Int32.not_lt.mp z8, z9.2⟩
      subst e_p0
      refine lv_aload_n hx hb dL_clock_0 rfl (lv_at hl 2 rfl) ?_
      refine lv_iconst (v := 0) hx hb dL_clock_1 (by decide) ?_
      refine lv_aload_n hx hb dL_clock_2 rfl (lv_at hl 0 rfl) ?_
      refine lv_iload_n hx hb dL_clock_3 rfl (lv_at hl 1 rfl) ?_
      refine k_callVi (As := [.int (nI i)]) (rest := [.int 0, .ref ob]) C hml (c_X10_clock (g := iF g 1100 0) hC.f0 hE hi) (cwV 1 hts gL_clock_X10_clock rfl rfl rfl (by decide +kernel) ⟨by decide, by decide⟩) hW hS hB (hC.1.lay.k0).1 (pAt_10 (hC.1.lay.k0).2) rfl rfl hl.1 rfl (Nat.le_of_ble_eq_true rfl) dL_clock_4 ⟨Nat.le_of_ble_eq_true rfl, Nat.le_of_ble_eq_true rfl⟩ (fun r9 S3 H locs hp9 hW hS => ?_)
      obtain ⟨e8, e9⟩ := hp9
      rw [e8] at hW
      have q7 := wp_q (G := (mClock g (nI i)).1) (by rw [mClock, if_pos z9]) hon hC hCB hH
      have q8 := And.intro q7.1 (And.intro q7.2 (show mClk (iF g 1100 0) i = (mClock g (nI i)).2 by rw [mClock, if_pos z9, if_neg z8, nI_clamp (by omega)]; rfl))
      have hob9 := hob
      have hon9 := hon
      refine lv_i2l (v := r9.toInt64) hx hb dL_clock_7 rfl ?_
      refine a_Jstore C hW hS (j := 0) hob9 hon9 rfl (by omega) (by omega) dL_clock_8 (fun S4 H locs e1 hW hS => ?_)
      subst e1
      refine lv_goto (tgt := 15) hx hb dL_clock_9 (by decide) ?_
      refine lv_iconst (v := 0) hx hb dL_clock_15 (by decide) ?_
      exact k_iret C hr hlk hW hS hB ⟨q8.1.st, q8.2.1, fun _ => tJ_0.trans (congrArg Int32.toInt64 (e9.trans q8.2.2))⟩ (Nat.le_of_ble_eq_true rfl) (Nat.le_of_ble_eq_true rfl) dL_clock_16
  · refine lv_aload_n hx hb dL_clock_0 rfl (lv_at hl 2 rfl) ?_
    refine lv_iconst (v := 0) hx hb dL_clock_1 (by decide) ?_
    refine lv_aload_n hx hb dL_clock_2 rfl (lv_at hl 0 rfl) ?_
    refine lv_iload_n hx hb dL_clock_3 rfl (lv_at hl 1 rfl) ?_
    refine k_callVC (As := [.int p0]) (rest := [.int 0, .ref ob]) (x := ⟨0, 9, 12, 13⟩) C hml (c_X10_clock_x hEx hls hC.1.lay z9) (cwV 1 hts gL_clock_X10_clock rfl rfl rfl (by decide +kernel) ⟨by decide, by decide⟩) hW hS hB (hC.1.lay.k0).1 (pAt_10 (hC.1.lay.k0).2) rfl rfl hl.1 rfl (Nat.le_of_ble_eq_true rfl) dL_clock_4 ⟨Nat.le_of_ble_eq_true rfl, Nat.le_of_ble_eq_true rfl⟩ htb (by decide) (by decide) (hts (.classLink RL 13 IAE) (by decide +kernel)) (hEx.c0 hEn) (fun q9 H locs hW hS => ?_)
    refine lv_astore_n (lv' := [(3, .ref q9), (0, .ref (y 0)), (1, .int p0), (2, .ref ob)]) hx hb dL_clock_12 rfl hl (by decide) rfl (fun ls hl => ?_)
    refine lv_iconst (v := 1) hx hb dL_clock_13 (by decide) ?_
    exact k_iret C hr hlk hW hS hB (have q8 := wp_x (G := (mClock g p0).1) (by rw [mClock, if_neg z9]) hon hC hCB hH; ⟨q8.1, q8.2, fun z7 => absurd z7 (by decide)⟩) (Nat.le_of_ble_eq_true rfl) (Nat.le_of_ble_eq_true rfl) dL_clock_14
set_option maxRecDepth 100000 in
set_option maxHeartbeats 1000000 in
theorem c_L_carry {l : Launch} {D : va_G} {cy : Nat → ClassId} {B : Nat} {s0 : State} {S : PS} {y : Nat → Nat} {dE mi : Nat} {g : MS} {c0 : CS} {n c9 d9 ob : Nat} {f : Nat → Nat} {p0 : Int32} {gt kk h : Nat} (hC : CR S y dE g c0) (hE : EnvC dE mi B s0) (hEx : EnvX B s0) (hls : l.stackTraces = false) (hCB : CanB c0 g n) (hH : CanH c0 g n) (hG : GInv g n f c9 d9) (hc : c9 < 512) (hob : IsAt S 14 ob) (hon : aN S ob = 1) (hF9 : mIsMsg g p0 → CvF g n f p0.toNatClampNeg gt kk h) (hlt9 : mIsMsg g p0 → g.1 32 (8 * p0.toNatClampNeg) = 0 → mNew (iF g 1100 0) gt kk (g.1 32 (8 * p0.toNatClampNeg + 4)) (g.1 32 (8 * p0.toNatClampNeg + 5)) → n < 300) : KI l yL_carry wsL_carry ({ frames := 11, cells := 3, slots := 1111, locals := 285 }) D cy B s0 [.ref (y 0), .int p0, .ref ob] S (fun r S2 => WP S S2 y dE ob ((mCarry g n p0 gt kk h).1) (mCn g n p0 gt kk) ∧ r = ((mCarry g n p0 gt kk h).1).2.2 1100 ∧ (r = 0 → aJ S2 ob 0 = ((mCarry g n p0 gt kk h).2).toInt64)) 3 1111 := by
  refine k_bodyW (own := RL) (cc := cL_carry) (maxL := 4) (ret := (some .int)) (hh := [(0, 16, 19, 13)]) rfl (by decide) rfl (Nat.le_of_ble_eq_true rfl) ?_
  intro p e s m below meth c C hml hr hlk htb hB hW ls hl
  obtain ⟨hx, hb, hts, hown, hK, hEn⟩ := id C
  have hS : va_S (Aw B) s.heap s.heap [] := va_S.rf
  have hl : lv_has ls 4 [(0, .ref (y 0)), (1, .int p0), (2, .ref ob)] := hl
  have hm := hG.b.mo
  have h7 := hC.1.lay.k7
  by_cases z9 : mIsMsg g p0
  · obtain ⟨q, b, hq, e_p0, hz, hM⟩ := isMsg_at hC hm z9
    subst e_p0
    have hm2 := hm.2
    have eq9 : (nI q).toNatClampNeg = q := nI_clamp (by omega)
    have F := hF9 z9
    rw [eq9] at F
    have hN9 := hlt9 z9
    rw [eq9] at hN9
    rcases F.2 with kd | kd | kd
    · have hMa : MsgAt S b 0 (nI gt) (nI kk) (g.1 32 (8 * q + 4)) (g.1 32 (8 * q + 3)) (g.1 32 (8 * q + 5)) (g.1 32 (8 * q + 6)) (g.1 32 (8 * q + 7)) := by rw [kd.1, F.1.2.2.2.1, F.1.2.2.2.2] at hM; exact hM
      refine lv_aload_n hx hb dL_carry_0 rfl (lv_at hl 2 rfl) ?_
      refine lv_iconst (v := 0) hx hb dL_carry_1 (by decide) ?_
      refine lv_aload_n hx hb dL_carry_2 rfl (lv_at hl 0 rfl) ?_
      refine lv_iload_n hx hb dL_carry_3 rfl (lv_at hl 1 rfl) ?_
      refine k_callVi (As := [.int (nI q)]) (rest := [.int 0, .ref ob]) C hml (c_X10_carry_a (g := iF g 1100 0) hC.f0 hE hm hq hz F.1.1 F.1.2.1 (hN9 kd.1) hG.a.nl hCB.f0 hG.f0.a.bi hG.f0.a.wo kd.2.1 kd.2.2 hMa) (cwV 1 hts gL_carry_X10_carry rfl rfl rfl (by decide +kernel) ⟨by decide, by decide⟩) hW hS hB (hC.1.lay.k0).1 (pAt_10 (hC.1.lay.k0).2) rfl rfl hl.1 rfl (Nat.le_of_ble_eq_true rfl) dL_carry_4 ⟨Nat.le_of_ble_eq_true rfl, Nat.le_of_ble_eq_true rfl⟩ (fun r9 S1 H locs hp9 hW hS => ?_)
      obtain ⟨c2, f9, k9, b9, p9, e9⟩ := hp9
      subst e9
      have q8 := wp_ask z9 rfl hm hG F kd.1 hC.1.lay.k7 hob hon hH kd.2.1 f9 k9 b9 p9
      rw [cn_y z9 (by omega)] at q8
      have hob9 : IsAt S1 14 ob := q8.1.elim (fun _ z => z.1.1 _ _ hob)
      have hon9 : aN S1 ob = 1 := q8.1.elim (fun _ z => z.2.1)
      refine lv_if_eq (tgt := 14) hx hb dL_carry_7 (by decide) (fun c_7 => ?_) (fun c_7 => ?_)
      · refine lv_lconst (v := 0) hx hb dL_carry_14 (by decide) ?_
        refine a_Jstore C hW hS (j := 0) hob9 hon9 rfl (by omega) (by omega) dL_carry_15 (fun S2 H locs e1 hW hS => ?_)
        subst e1
        refine lv_goto (tgt := 22) hx hb dL_carry_16 (by decide) ?_
        refine lv_iconst (v := 0) hx hb dL_carry_22 (by decide) ?_
        exact k_iret C hr hlk hW hS hB ⟨q8.1.st, q8.2.1, fun _ => tJ_0.trans (by rw [← q8.2.2, c_7]; rfl)⟩ (Nat.le_of_ble_eq_true rfl) (Nat.le_of_ble_eq_true rfl) dL_carry_23
      · refine lv_lconst (v := 1) hx hb dL_carry_10 (by decide) ?_
        refine lv_goto (tgt := 15) hx hb dL_carry_11 (by decide) ?_
        refine a_Jstore C hW hS (j := 0) hob9 hon9 rfl (by omega) (by omega) dL_carry_15 (fun S3 H locs e1 hW hS => ?_)
        subst e1
        refine lv_goto (tgt := 22) hx hb dL_carry_16 (by decide) ?_
        refine lv_iconst (v := 0) hx hb dL_carry_22 (by decide) ?_
        exact k_iret C hr hlk hW hS hB ⟨q8.1.st, q8.2.1, fun _ => tJ_0.trans (by rw [← q8.2.2, (mAsks_z _ _ _ _ _ _ _).resolve_left c_7]; rfl)⟩ (Nat.le_of_ble_eq_true rfl) (Nat.le_of_ble_eq_true rfl) dL_carry_23
    · have hMa : MsgAt S b 1 (nI gt) (nI kk) (g.1 32 (8 * q + 4)) (g.1 32 (8 * q + 3)) (g.1 32 (8 * q + 5)) (g.1 32 (8 * q + 6)) (g.1 32 (8 * q + 7)) := by rw [kd.1, F.1.2.2.2.1, F.1.2.2.2.2] at hM; exact hM
      refine lv_aload_n hx hb dL_carry_0 rfl (lv_at hl 2 rfl) ?_
      refine lv_iconst (v := 0) hx hb dL_carry_1 (by decide) ?_
      refine lv_aload_n hx hb dL_carry_2 rfl (lv_at hl 0 rfl) ?_
      refine lv_iload_n hx hb dL_carry_3 rfl (lv_at hl 1 rfl) ?_
      refine k_callVi (As := [.int (nI q)]) (rest := [.int 0, .ref ob]) C hml (c_X10_carry_g (g := iF g 1100 0) (h := h) hC.f0 hE hm hq hz F.1.1 F.1.2.1 hMa (grant_len hG hH F.1.1 F.1.2.1) (grant_num hG hH F kd.1)) (cwV 1 hts gL_carry_X10_carry rfl rfl rfl (by decide +kernel) ⟨by decide, by decide⟩) hW hS hB (hC.1.lay.k0).1 (pAt_10 (hC.1.lay.k0).2) rfl rfl hl.1 rfl (Nat.le_of_ble_eq_true rfl) dL_carry_4 ⟨Nat.le_of_ble_eq_true rfl, Nat.le_of_ble_eq_true rfl⟩ (fun r9 S4 H locs hp9 hW hS => ?_)
      obtain ⟨c2, f9, k9, d8, e9⟩ := hp9
      subst e9
      have q8 := wp_grant z9 rfl hm hG F kd.1 hC.1.lay.k7 hob hon hCB hH f9 k9 d8
      rw [cn_y z9 (by omega)] at q8
      have hob9 : IsAt S4 14 ob := q8.1.elim (fun _ z => z.1.1 _ _ hob)
      have hon9 : aN S4 ob = 1 := q8.1.elim (fun _ z => z.2.1)
      refine lv_if_eq (tgt := 14) hx hb dL_carry_7 (by decide) (fun c_7 => ?_) (fun c_7 => ?_)
      · refine lv_lconst (v := 0) hx hb dL_carry_14 (by decide) ?_
        refine a_Jstore C hW hS (j := 0) hob9 hon9 rfl (by omega) (by omega) dL_carry_15 (fun S5 H locs e1 hW hS => ?_)
        subst e1
        refine lv_goto (tgt := 22) hx hb dL_carry_16 (by decide) ?_
        refine lv_iconst (v := 0) hx hb dL_carry_22 (by decide) ?_
        exact k_iret C hr hlk hW hS hB ⟨q8.1.st, q8.2.1, fun _ => tJ_0.trans (by rw [← q8.2.2, c_7]; rfl)⟩ (Nat.le_of_ble_eq_true rfl) (Nat.le_of_ble_eq_true rfl) dL_carry_23
      · refine lv_lconst (v := 1) hx hb dL_carry_10 (by decide) ?_
        refine lv_goto (tgt := 15) hx hb dL_carry_11 (by decide) ?_
        refine a_Jstore C hW hS (j := 0) hob9 hon9 rfl (by omega) (by omega) dL_carry_15 (fun S6 H locs e1 hW hS => ?_)
        subst e1
        refine lv_goto (tgt := 22) hx hb dL_carry_16 (by decide) ?_
        refine lv_iconst (v := 0) hx hb dL_carry_22 (by decide) ?_
        exact k_iret C hr hlk hW hS hB ⟨q8.1.st, q8.2.1, fun _ => tJ_0.trans (by rw [← q8.2.2, (kHear_z _ _ _ _ _ _ _ _).resolve_left c_7]; rfl)⟩ (Nat.le_of_ble_eq_true rfl) (Nat.le_of_ble_eq_true rfl) dL_carry_23
    · have hMa : MsgAt S b 2 (nI gt) (nI kk) (g.1 32 (8 * q + 4)) (g.1 32 (8 * q + 3)) (g.1 32 (8 * q + 5)) (nI h) (g.1 32 (8 * q + 7)) := by rw [kd.1, F.1.2.2.2.1, F.1.2.2.2.2, kd.2.2.2.1] at hM; exact hM
      refine lv_aload_n hx hb dL_carry_0 rfl (lv_at hl 2 rfl) ?_
      refine lv_iconst (v := 0) hx hb dL_carry_1 (by decide) ?_
      refine lv_aload_n hx hb dL_carry_2 rfl (lv_at hl 0 rfl) ?_
      refine lv_iload_n hx hb dL_carry_3 rfl (lv_at hl 1 rfl) ?_
      refine k_callVi (As := [.int (nI q)]) (rest := [.int 0, .ref ob]) C hml (c_X10_carry_r (g := iF g 1100 0) hC.f0 hE hm hq hz F.1.1 F.1.2.1 hG.a.n3 hCB.f0 hG.f0.a.bi kd.2.2.1 kd.2.2.2.2 kd.2.1 hMa) (cwV 1 hts gL_carry_X10_carry rfl rfl rfl (by decide +kernel) ⟨by decide, by decide⟩) hW hS hB (hC.1.lay.k0).1 (pAt_10 (hC.1.lay.k0).2) rfl rfl hl.1 rfl (Nat.le_of_ble_eq_true rfl) dL_carry_4 ⟨Nat.le_of_ble_eq_true rfl, Nat.le_of_ble_eq_true rfl⟩ (fun r9 S7 H locs hp9 hW hS => ?_)
      obtain ⟨c2, f9, k9, b9, p9, e9⟩ := hp9
      subst e9
      have q8 := wp_ret z9 rfl hm F kd.1 hC.1.lay.k7 hob hon hH f9 k9 b9 p9
      rw [cn_y z9 (by omega)] at q8
      have hob9 : IsAt S7 14 ob := q8.1.elim (fun _ z => z.1.1 _ _ hob)
      have hon9 : aN S7 ob = 1 := q8.1.elim (fun _ z => z.2.1)
      refine lv_if_eq (tgt := 14) hx hb dL_carry_7 (by decide) (fun c_7 => ?_) (fun c_7 => ?_)
      · refine lv_lconst (v := 0) hx hb dL_carry_14 (by decide) ?_
        refine a_Jstore C hW hS (j := 0) hob9 hon9 rfl (by omega) (by omega) dL_carry_15 (fun S8 H locs e1 hW hS => ?_)
        subst e1
        refine lv_goto (tgt := 22) hx hb dL_carry_16 (by decide) ?_
        refine lv_iconst (v := 0) hx hb dL_carry_22 (by decide) ?_
        exact k_iret C hr hlk hW hS hB ⟨q8.1.st, q8.2.1, fun _ => tJ_0.trans (by rw [← q8.2.2, c_7]; rfl)⟩ (Nat.le_of_ble_eq_true rfl) (Nat.le_of_ble_eq_true rfl) dL_carry_23
      · refine lv_lconst (v := 1) hx hb dL_carry_10 (by decide) ?_
        refine lv_goto (tgt := 15) hx hb dL_carry_11 (by decide) ?_
        refine a_Jstore C hW hS (j := 0) hob9 hon9 rfl (by omega) (by omega) dL_carry_15 (fun S9 H locs e1 hW hS => ?_)
        subst e1
        refine lv_goto (tgt := 22) hx hb dL_carry_16 (by decide) ?_
        refine lv_iconst (v := 0) hx hb dL_carry_22 (by decide) ?_
        exact k_iret C hr hlk hW hS hB ⟨q8.1.st, q8.2.1, fun _ => tJ_0.trans (by rw [← q8.2.2, (mRet_z _ _ _ _ _ _ _).resolve_left c_7]; rfl)⟩ (Nat.le_of_ble_eq_true rfl) (Nat.le_of_ble_eq_true rfl) dL_carry_23
  · refine lv_aload_n hx hb dL_carry_0 rfl (lv_at hl 2 rfl) ?_
    refine lv_iconst (v := 0) hx hb dL_carry_1 (by decide) ?_
    refine lv_aload_n hx hb dL_carry_2 rfl (lv_at hl 0 rfl) ?_
    refine lv_iload_n hx hb dL_carry_3 rfl (lv_at hl 1 rfl) ?_
    refine k_callVC (As := [.int p0]) (rest := [.int 0, .ref ob]) (x := ⟨0, 16, 19, 13⟩) C hml (c_X10_carry_x hEx hls hC hm z9) (cwV 1 hts gL_carry_X10_carry rfl rfl rfl (by decide +kernel) ⟨by decide, by decide⟩) hW hS hB (hC.1.lay.k0).1 (pAt_10 (hC.1.lay.k0).2) rfl rfl hl.1 rfl (Nat.le_of_ble_eq_true rfl) dL_carry_4 ⟨Nat.le_of_ble_eq_true rfl, Nat.le_of_ble_eq_true rfl⟩ htb (by decide) (by decide) (hts (.classLink RL 13 IAE) (by decide +kernel)) (hEx.c0 hEn) (fun q9 H locs hW hS => ?_)
    refine lv_astore_n (lv' := [(3, .ref q9), (0, .ref (y 0)), (1, .int p0), (2, .ref ob)]) hx hb dL_carry_19 rfl hl (by decide) rfl (fun ls hl => ?_)
    refine lv_iconst (v := 1) hx hb dL_carry_20 (by decide) ?_
    exact k_iret C hr hlk hW hS hB (have q8 := wp_x (G := (mCarry g n p0 gt kk h).1) (by rw [mCarry, if_neg z9]) hon hC hCB hH; ⟨cn_x z9 q8.1, q8.2, fun z7 => absurd z7 (by decide)⟩) (Nat.le_of_ble_eq_true rfl) (Nat.le_of_ble_eq_true rfl) dL_carry_21
