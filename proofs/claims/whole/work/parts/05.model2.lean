abbrev mAge (g : MS) (gt h : Nat) : Int32 := mClk g gt - g.1 29 h
abbrev mSpan (g : MS) (h : Nat) : Int32 := 998 * g.1 30 h / 1000
abbrev mHold (g : MS) (gt kk h : Nat) : Prop := g.1 27 h = nI (gt + 1) ∧ g.1 8 h = nI kk
abbrev mLive (g : MS) (gt h : Nat) : Prop := mAge g gt h < mSpan g h
def mLiveSum (g : MS) (gt kk : Nat) : Nat → Int32
  | 0 => 0
  | h + 1 => if mHold g gt kk h ∧ mLive g gt h then mLiveSum g gt kk h + g.1 28 h else mLiveSum g gt kk h
set_option maxRecDepth 100000 in
set_option maxHeartbeats 4000000 in
theorem c_X11_age {l : Launch} {D : va_G} {cy : Nat → ClassId} {B : Nat} {s0 : State} {S : PS} {a0 : Nat} {t : Nat → Nat} {g : MS} {gt h : Nat} (hR : MR S a0 t g) (hg : gt < 7) (hh : h < 300) : KI l yX11_age wsX11_age ({ frames := 1, cells := 0, slots := 0, locals := 21 }) D cy B s0 [.ref a0, .int (nI gt), .int (nI h)] S (fun r S2 => S2 = S ∧ r = mAge g gt h) 0 0 := by
  refine k_body (own := RX11) (cc := cX11_age) (maxL := 3) (ret := (some .int)) rfl (by decide) rfl (Nat.le_of_ble_eq_true rfl) ?_
  intro p e s m below meth c C hml hr hlk hnm hB hW ls hl
  obtain ⟨hx, hb, hts, hown, hK, hEn⟩ := id C
  have hS : va_S (Aw B) s.heap s.heap [] := va_S.rf
  have hinX11 : ∀ w ∈ wsX110, w ∈ wsX11_age := by decide +kernel
  have l94 : Cond.fieldLink RX11 94 "LeaseGatesModel" "heldSince" "[I" ∈ wsX11_age := by decide +kernel
  have hl : lv_has ls 3 [(0, .ref a0), (1, .int (nI gt)), (2, .int (nI h))] := hl
  have hO : MO S S a0 t := MO.rf
  refine lv_aload_n hx hb dX11_age_0 rfl (lv_at hl 0 rfl) ?_
  refine lv_iload_n hx hb dX11_age_1 rfl (lv_at hl 1 rfl) ?_
  refine k_callVi (As := [.int (nI gt)]) (rest := []) C hml (c_X11_clockOf (k := gt) hR (by omega)) (cwV 1 hts gX11_age_X11_clockOf rfl rfl rfl (by decide +kernel) ⟨by decide, by decide⟩) hW hS hB (hR.1.1).1 (pAt_11 (hR.1.1).2) rfl rfl hl.1 rfl (Nat.le_of_ble_eq_true rfl) dX11_age_2 ⟨Nat.le_of_ble_eq_true rfl, Nat.le_of_ble_eq_true rfl⟩ (fun r9 S1 H locs hp9 hW hS => ?_)
  obtain ⟨e8, e9⟩ := hp9
  rw [e8] at hW
  subst e9
  refine lv_aload_n hx hb dX11_age_5 rfl (lv_at hl 0 rfl) ?_
  refine g_1129 C hinX11 hW hR.1.1 (mA_29 hR.1) l94 dX11_age_6 ?_
  refine lv_iload_n hx hb dX11_age_9 rfl (lv_at hl 2 rfl) ?_
  refine a_Iload C hW (j := h) (mK_29 hR.1) (mN_29 hR.1) rfl (by omega) (by omega) dX11_age_10 ?_
  refine top_i (show aI S (t 29) h = g.1 29 h from hR.i 29 h) ?_
  refine lv_isub hx hb dX11_age_11 ?_
  exact k_iret C hr hlk hW hS hB ⟨rfl, rfl⟩ (Nat.le_refl _) (Nat.le_refl _) dX11_age_12
set_option maxRecDepth 100000 in
set_option maxHeartbeats 4000000 in
theorem c_X11_isHold {l : Launch} {D : va_G} {cy : Nat → ClassId} {B : Nat} {s0 : State} {S : PS} {a0 : Nat} {t : Nat → Nat} {g : MS} {gt kk h : Nat} (hR : MR S a0 t g) (hh : h < 300) : KI l yX11_isHold wsX11_isHold ({ frames := 0, cells := 0, slots := 0, locals := 0 }) D cy B s0 [.ref a0, .int (nI gt), .int (nI kk), .int (nI h)] S (fun r S2 => S2 = S ∧ r = (if mHold g gt kk h then 1 else 0)) 0 0 := by
  refine k_body (own := RX11) (cc := cX11_isHold) (maxL := 4) (ret := (some .boolean)) rfl (by decide) rfl (Nat.le_of_ble_eq_true rfl) ?_
  intro p e s m below meth c C hml hr hlk hnm hB hW ls hl
  obtain ⟨hx, hb, hts, hown, hK, hEn⟩ := id C
  have hS : va_S (Aw B) s.heap s.heap [] := va_S.rf
  have hinX11 : ∀ w ∈ wsX110, w ∈ wsX11_isHold := by decide +kernel
  have l29 : Cond.fieldLink RX11 29 "LeaseGatesModel" "loanKey" "[I" ∈ wsX11_isHold := by decide +kernel
  have l88 : Cond.fieldLink RX11 88 "LeaseGatesModel" "holder" "[I" ∈ wsX11_isHold := by decide +kernel
  have hl : lv_has ls 4 [(0, .ref a0), (1, .int (nI gt)), (2, .int (nI kk)), (3, .int (nI h))] := hl
  have hO : MO S S a0 t := MO.rf
  refine lv_aload_n hx hb dX11_isHold_0 rfl (lv_at hl 0 rfl) ?_
  refine g_1127 C hinX11 hW hR.1.1 (mA_27 hR.1) l88 dX11_isHold_1 ?_
  refine lv_iload_n hx hb dX11_isHold_4 rfl (lv_at hl 3 rfl) ?_
  refine a_Iload C hW (j := h) (mK_27 hR.1) (mN_27 hR.1) rfl (by omega) (by omega) dX11_isHold_5 ?_
  refine top_i (show aI S (t 27) h = g.1 27 h from hR.i 27 h) ?_
  refine lv_iload_n hx hb dX11_isHold_6 rfl (lv_at hl 1 rfl) ?_
  refine lv_iconst (v := 1) hx hb dX11_isHold_7 (by decide) ?_
  refine lv_iadd hx hb dX11_isHold_8 ?_
  refine top_i (show (nI gt) + 1 = nI (gt + 1) from nI_add gt 1) ?_
  refine lv_icmp_ne (tgt := 26) hx hb dX11_isHold_9 (by decide) (fun c_9 => ?_) (fun c_9 => ?_)
  · refine lv_iconst (v := 0) hx hb dX11_isHold_26 (by decide) ?_
    exact k_zret C hr hlk hW hS hB ⟨rfl, (if_neg (fun z => c_9 z.1)).symm⟩ (by decide) (Nat.le_refl _) (Nat.le_refl _) dX11_isHold_27
  · refine lv_aload_n hx hb dX11_isHold_12 rfl (lv_at hl 0 rfl) ?_
    refine g_1108 C hinX11 hW hR.1.1 (mA_8 hR.1) l29 dX11_isHold_13 ?_
    refine lv_iload_n hx hb dX11_isHold_16 rfl (lv_at hl 3 rfl) ?_
    refine a_Iload C hW (j := h) (mK_8 hR.1) (mN_8 hR.1) rfl (by omega) (by omega) dX11_isHold_17 ?_
    refine top_i (show aI S (t 8) h = g.1 8 h from hR.i 8 h) ?_
    refine lv_iload_n hx hb dX11_isHold_18 rfl (lv_at hl 2 rfl) ?_
    refine lv_icmp_ne (tgt := 26) hx hb dX11_isHold_19 (by decide) (fun c_19 => ?_) (fun c_19 => ?_)
    · refine lv_iconst (v := 0) hx hb dX11_isHold_26 (by decide) ?_
      exact k_zret C hr hlk hW hS hB ⟨rfl, (if_neg (fun z => c_19 z.2)).symm⟩ (by decide) (Nat.le_refl _) (Nat.le_refl _) dX11_isHold_27
    · refine lv_iconst (v := 1) hx hb dX11_isHold_22 (by decide) ?_
      refine lv_goto (tgt := 27) hx hb dX11_isHold_23 (by decide) ?_
      exact k_zret C hr hlk hW hS hB ⟨rfl, (if_pos ⟨c_9, c_19⟩).symm⟩ (by decide) (Nat.le_refl _) (Nat.le_refl _) dX11_isHold_27
set_option maxRecDepth 100000 in
set_option maxHeartbeats 4000000 in
theorem c_X11_isLive {l : Launch} {D : va_G} {cy : Nat → ClassId} {B : Nat} {s0 : State} {S : PS} {a0 : Nat} {t : Nat → Nat} {g : MS} {gt h : Nat} (hR : MR S a0 t g) (hg : gt < 7) (hh : h < 300) : KI l yX11_isLive wsX11_isLive ({ frames := 2, cells := 0, slots := 0, locals := 43 }) D cy B s0 [.ref a0, .int (nI gt), .int (nI h)] S (fun r S2 => S2 = S ∧ r = (if mLive g gt h then 1 else 0)) 0 0 := by
  refine k_body (own := RX11) (cc := cX11_isLive) (maxL := 3) (ret := (some .boolean)) rfl (by decide) rfl (Nat.le_of_ble_eq_true rfl) ?_
  intro p e s m below meth c C hml hr hlk hnm hB hW ls hl
  obtain ⟨hx, hb, hts, hown, hK, hEn⟩ := id C
  have hS : va_S (Aw B) s.heap s.heap [] := va_S.rf
  have hinX11 : ∀ w ∈ wsX110, w ∈ wsX11_isLive := by decide +kernel
  have l97 : Cond.fieldLink RX11 97 "LeaseGatesModel" "heldLength" "[I" ∈ wsX11_isLive := by decide +kernel
  have hl : lv_has ls 3 [(0, .ref a0), (1, .int (nI gt)), (2, .int (nI h))] := hl
  have hO : MO S S a0 t := MO.rf
  refine lv_aload_n hx hb dX11_isLive_0 rfl (lv_at hl 0 rfl) ?_
  refine lv_iload_n hx hb dX11_isLive_1 rfl (lv_at hl 1 rfl) ?_
  refine lv_iload_n hx hb dX11_isLive_2 rfl (lv_at hl 2 rfl) ?_
  refine k_callVi (As := [.int (nI gt), .int (nI h)]) (rest := []) C hml (c_X11_age (gt := gt) (h := h) hR (by omega) (by omega)) (cwV 2 hts gX11_isLive_X11_age rfl rfl rfl (by decide +kernel) ⟨by decide, by decide⟩) hW hS hB (hR.1.1).1 (pAt_11 (hR.1.1).2) rfl rfl hl.1 rfl (Nat.le_of_ble_eq_true rfl) dX11_isLive_3 ⟨Nat.le_of_ble_eq_true rfl, Nat.le_of_ble_eq_true rfl⟩ (fun r9 S1 H locs hp9 hW hS => ?_)
  obtain ⟨e8, e9⟩ := hp9
  rw [e8] at hW
  subst e9
  refine lv_aload_n hx hb dX11_isLive_6 rfl (lv_at hl 0 rfl) ?_
  refine g_1130 C hinX11 hW hR.1.1 (mA_30 hR.1) l97 dX11_isLive_7 ?_
  refine lv_iload_n hx hb dX11_isLive_10 rfl (lv_at hl 2 rfl) ?_
  refine a_Iload C hW (j := h) (mK_30 hR.1) (mN_30 hR.1) rfl (by omega) (by omega) dX11_isLive_11 ?_
  refine top_i (show aI S (t 30) h = g.1 30 h from hR.i 30 h) ?_
  refine k_callSi (As := [.int (g.1 30 h)]) (rest := [.int (mAge g gt h)]) C hml (c_X11_liveTime) (va_cwS 1 hts gX11_isLive_X11_liveTime rfl rfl rfl (by decide +kernel) ⟨by decide, by decide⟩) hW hS hB rfl hl.1 rfl (Nat.le_of_ble_eq_true rfl) dX11_isLive_12 ⟨Nat.le_of_ble_eq_true rfl, Nat.le_of_ble_eq_true rfl⟩ (fun r9 S2 H locs hp9 hW hS => ?_)
  obtain ⟨e8, e9⟩ := hp9
  rw [e8] at hW
  subst e9
  refine lv_icmp_ge (tgt := 22) hx hb dX11_isLive_15 (by decide) (fun c_15 => ?_) (fun c_15 => ?_)
  · refine lv_iconst (v := 0) hx hb dX11_isLive_22 (by decide) ?_
    exact k_zret C hr hlk hW hS hB ⟨rfl, (if_neg (Int32.not_lt.mpr c_15)).symm⟩ (by decide) (Nat.le_refl _) (Nat.le_refl _) dX11_isLive_23
  · refine lv_iconst (v := 1) hx hb dX11_isLive_18 (by decide) ?_
    refine lv_goto (tgt := 23) hx hb dX11_isLive_19 (by decide) ?_
    exact k_zret C hr hlk hW hS hB ⟨rfl, (if_pos (Int32.not_le.mp c_15)).symm⟩ (by decide) (Nat.le_refl _) (Nat.le_refl _) dX11_isLive_23
set_option maxRecDepth 100000 in
set_option maxHeartbeats 4000000 in
theorem c_X11_live {l : Launch} {D : va_G} {cy : Nat → ClassId} {B : Nat} {s0 : State} {S : PS} {a0 : Nat} {t : Nat → Nat} {g : MS} {gt kk n : Nat} (hR : MR S a0 t g) (hn : g.2.2 1107 = nI n) (hn3 : n ≤ 300) (hg : gt < 7) : KI l yX11_live wsX11_live ({ frames := 3, cells := 0, slots := 0, locals := 65 }) D cy B s0 [.ref a0, .int (nI gt), .int (nI kk)] S (fun r S2 => S2 = S ∧ r = mLiveSum g gt kk n) 0 0 := by
  refine k_body (own := RX11) (cc := cX11_live) (maxL := 5) (ret := (some .int)) rfl (by decide) rfl (Nat.le_of_ble_eq_true rfl) ?_
  intro p e s m below meth c C hml hr hlk hnm hB hW ls hl
  obtain ⟨hx, hb, hts, hown, hK, hEn⟩ := id C
  have hS : va_S (Aw B) s.heap s.heap [] := va_S.rf
  have hinX11 : ∀ w ∈ wsX110, w ∈ wsX11_live := by decide +kernel
  have l91 : Cond.fieldLink RX11 91 "LeaseGatesModel" "held" "[I" ∈ wsX11_live := by decide +kernel
  have l111 : Cond.fieldLink RX11 111 "LeaseGatesModel" "loans" "I" ∈ wsX11_live := by decide +kernel
  have hl : lv_has ls 5 [(0, .ref a0), (1, .int (nI gt)), (2, .int (nI kk))] := hl
  have hO : MO S S a0 t := MO.rf
  refine lv_iconst (v := 0) hx hb dX11_live_0 (by decide) ?_
  refine lv_istore_n (lv' := [(3, .int 0), (0, .ref a0), (1, .int (nI gt)), (2, .int (nI kk))]) hx hb dX11_live_1 rfl hl (by decide) rfl (fun ls hl => ?_)
  refine lv_iconst (v := 0) hx hb dX11_live_2 (by decide) ?_
  refine lv_istore (lv' := [(4, .int 0), (3, .int 0), (0, .ref a0), (1, .int (nI gt)), (2, .int (nI kk))]) hx hb dX11_live_3 hl (by decide) rfl (fun ls hl => ?_)
  have lp : ∀ (d k : Nat) (x3 : Int32) (H : Heap) (locs : List Loc) (ls : Array Slot), k ≤ n → n - k < d → x3 = mLiveSum g gt kk k → PW D cy B S H → va_S (Aw B) s.heap H locs → lv_has ls 5 [(0, .ref a0), (1, .int (nI gt)), (2, .int (nI kk)), (3, .int x3), (4, .int (nI k))] → W p l e ({ frames := 3, cells := 0, slots := 0, locals := 65 }) s m [.ref a0, .int (nI gt), .int (nI kk)].toArray below meth c H locs 0 0 (MQ below (va_Qi (fun r S2 => S2 = S ∧ r = mLiveSum g gt kk n) (PreW D cy B s0) (Aw B)) [.ref a0, .int (nI gt), .int (nI kk)].toArray s 0 0 (Aw B)) (F0 m 5 ls []) := by
    intro d
    induction d with
    | zero => intro k x3 H locs ls _ hd; exact absurd hd (Nat.not_lt_zero _)
    | succ d ih =>
      intro k x3 H locs ls hk hd e3 hW hS hl
      refine lv_iload hx hb dX11_live_5 (lv_at hl 4 rfl) ?_
      refine lv_aload_n hx hb dX11_live_7 rfl (lv_at hl 0 rfl) ?_
      refine g_1107 C hinX11 hW hR.1.1 l111 dX11_live_8 ?_
      refine top_i (show fI S 1107 a0 = nI n from (hR.f 1107).trans hn) ?_
      refine lv_icmp_ge (tgt := 55) hx hb dX11_live_11 (by decide) (fun c_11 => ?_) (fun c_11 => ?_)
      · have q_11 : n ≤ k := (nI_leI (a := n) (b := k) (by omega) (by omega)).mp c_11
        refine lv_iload_n hx hb dX11_live_55 rfl (lv_at hl 3 rfl) ?_
        exact k_iret C hr hlk hW hS hB ⟨rfl, by rw [e3, show k = n by omega]⟩ (Nat.le_refl _) (Nat.le_refl _) dX11_live_56
      · have q_11 : ¬ (n ≤ k) := fun z => c_11 ((nI_leI (a := n) (b := k) (by omega) (by omega)).mpr z)
        refine lv_aload_n hx hb dX11_live_14 rfl (lv_at hl 0 rfl) ?_
        refine lv_iload_n hx hb dX11_live_15 rfl (lv_at hl 1 rfl) ?_
        refine lv_iload_n hx hb dX11_live_16 rfl (lv_at hl 2 rfl) ?_
        refine lv_iload hx hb dX11_live_17 (lv_at hl 4 rfl) ?_
        refine k_callVi (As := [.int (nI gt), .int (nI kk), .int (nI k)]) (rest := []) C hml (c_X11_isHold (gt := gt) (kk := kk) (h := k) hR (by omega)) (cwV 3 hts gX11_live_X11_isHold rfl rfl rfl (by decide +kernel) ⟨by decide, by decide⟩) hW hS hB (hR.1.1).1 (pAt_11 (hR.1.1).2) rfl rfl hl.1 rfl (Nat.le_of_ble_eq_true rfl) dX11_live_19 ⟨Nat.le_of_ble_eq_true rfl, Nat.le_of_ble_eq_true rfl⟩ (fun r9 S1 H locs hp9 hW hS => ?_)
        obtain ⟨e8, e9⟩ := hp9
        rw [e8] at hW
        subst e9
        refine lv_if_eq (tgt := 47) hx hb dX11_live_22 (by decide) (fun c_22 => ?_) (fun c_22 => ?_)
        · have q_22 : ¬ (mHold g gt kk k) := ite0.mp c_22
          refine lv_iload_n hx hb dX11_live_47 rfl (lv_at hl 3 rfl) ?_
          refine lv_istore_n (lv' := [(3, .int x3), (0, .ref a0), (1, .int (nI gt)), (2, .int (nI kk)), (4, .int (nI k))]) hx hb dX11_live_48 rfl hl (by decide) rfl (fun ls hl => ?_)
          refine lv_iinc (v := nI (k + 1)) (lv' := [(4, .int (nI (k + 1))), (3, .int x3), (0, .ref a0), (1, .int (nI gt)), (2, .int (nI kk))]) hx hb dX11_live_49 hl (k := 4) rfl (nI_add k 1) (by decide) rfl (fun ls hl => ?_)
          refine lv_goto (tgt := 5) hx hb dX11_live_52 (by decide) ?_
          exact ih (k + 1) _ _ _ ls (by omega) (by omega) (by rw [e3, mLiveSum, if_neg (fun z => q_22 z.1)]) hW hS (lv_sub hl [2, 3, 4, 1, 0] rfl)
        · have q_22 : (mHold g gt kk k) := ite1.mp c_22
          refine lv_aload_n hx hb dX11_live_25 rfl (lv_at hl 0 rfl) ?_
          refine lv_iload_n hx hb dX11_live_26 rfl (lv_at hl 1 rfl) ?_
          refine lv_iload hx hb dX11_live_27 (lv_at hl 4 rfl) ?_
          refine k_callVi (As := [.int (nI gt), .int (nI k)]) (rest := []) C hml (c_X11_isLive (gt := gt) (h := k) hR (by omega) (by omega)) (cwV 2 hts gX11_live_X11_isLive rfl rfl rfl (by decide +kernel) ⟨by decide, by decide⟩) hW hS hB (hR.1.1).1 (pAt_11 (hR.1.1).2) rfl rfl hl.1 rfl (Nat.le_of_ble_eq_true rfl) dX11_live_29 ⟨Nat.le_of_ble_eq_true rfl, Nat.le_of_ble_eq_true rfl⟩ (fun r9 S2 H locs hp9 hW hS => ?_)
          obtain ⟨e8, e9⟩ := hp9
          rw [e8] at hW
          subst e9
          refine lv_if_eq (tgt := 47) hx hb dX11_live_32 (by decide) (fun c_32 => ?_) (fun c_32 => ?_)
          · have q_32 : ¬ (mLive g gt k) := ite0.mp c_32
            refine lv_iload_n hx hb dX11_live_47 rfl (lv_at hl 3 rfl) ?_
            refine lv_istore_n (lv' := [(3, .int x3), (0, .ref a0), (1, .int (nI gt)), (2, .int (nI kk)), (4, .int (nI k))]) hx hb dX11_live_48 rfl hl (by decide) rfl (fun ls hl => ?_)
            refine lv_iinc (v := nI (k + 1)) (lv' := [(4, .int (nI (k + 1))), (3, .int x3), (0, .ref a0), (1, .int (nI gt)), (2, .int (nI kk))]) hx hb dX11_live_49 hl (k := 4) rfl (nI_add k 1) (by decide) rfl (fun ls hl => ?_)
            refine lv_goto (tgt := 5) hx hb dX11_live_52 (by decide) ?_
            exact ih (k + 1) _ _ _ ls (by omega) (by omega) (by rw [e3, mLiveSum, if_neg (fun z => q_32 z.2)]) hW hS (lv_sub hl [2, 3, 4, 1, 0] rfl)
          · have q_32 : (mLive g gt k) := ite1.mp c_32
            refine lv_iload_n hx hb dX11_live_35 rfl (lv_at hl 3 rfl) ?_
            refine lv_aload_n hx hb dX11_live_36 rfl (lv_at hl 0 rfl) ?_
            refine g_1128 C hinX11 hW hR.1.1 (mA_28 hR.1) l91 dX11_live_37 ?_
            refine lv_iload hx hb dX11_live_40 (lv_at hl 4 rfl) ?_
            refine a_Iload C hW (j := k) (mK_28 hR.1) (mN_28 hR.1) rfl (by omega) (by omega) dX11_live_42 ?_
            refine top_i (show aI S (t 28) k = g.1 28 k from hR.i 28 k) ?_
            refine lv_iadd hx hb dX11_live_43 ?_
            refine lv_goto (tgt := 48) hx hb dX11_live_44 (by decide) ?_
            refine lv_istore_n (lv' := [(3, .int (x3 + (g.1 28 k))), (0, .ref a0), (1, .int (nI gt)), (2, .int (nI kk)), (4, .int (nI k))]) hx hb dX11_live_48 rfl hl (by decide) rfl (fun ls hl => ?_)
            refine lv_iinc (v := nI (k + 1)) (lv' := [(4, .int (nI (k + 1))), (3, .int (x3 + (g.1 28 k))), (0, .ref a0), (1, .int (nI gt)), (2, .int (nI kk))]) hx hb dX11_live_49 hl (k := 4) rfl (nI_add k 1) (by decide) rfl (fun ls hl => ?_)
            refine lv_goto (tgt := 5) hx hb dX11_live_52 (by decide) ?_
            exact ih (k + 1) _ _ _ ls (by omega) (by omega) (by rw [e3, mLiveSum, if_pos ⟨q_22, q_32⟩]) hW hS (lv_sub hl [2, 3, 4, 1, 0] rfl)
  exact lp (n - 0 + 1) 0 0 _ _ ls (by omega) (by omega) rfl hW hS (lv_sub hl [2, 3, 4, 1, 0] rfl)
set_option maxRecDepth 100000 in
set_option maxHeartbeats 4000000 in
theorem c_X11_isPlace {l : Launch} {D : va_G} {cy : Nat → ClassId} {B : Nat} {s0 : State} {S : PS} {p0 p1 : Int32}  : KI l yX11_isPlace wsX11_isPlace ({ frames := 1, cells := 0, slots := 0, locals := 22 }) D cy B s0 [.int p0, .int p1] S (fun r S2 => S2 = S ∧ r = (if (0 ≤ p0 ∧ p0 ≤ 5) ∧ (0 ≤ p1 ∧ p1 ≤ 7) then 1 else 0)) 0 0 := by
  refine k_body (own := RX11) (cc := cX11_isPlace) (maxL := 2) (ret := (some .boolean)) rfl (by decide) rfl (Nat.le_of_ble_eq_true rfl) ?_
  intro p e s m below meth c C hml hr hlk hnm hB hW ls hl
  obtain ⟨hx, hb, hts, hown, hK, hEn⟩ := id C
  have hS : va_S (Aw B) s.heap s.heap [] := va_S.rf
  have hl : lv_has ls 2 [(0, .int p0), (1, .int p1)] := hl
  refine lv_iload_n hx hb dX11_isPlace_0 rfl (lv_at hl 0 rfl) ?_
  refine lv_iconst (v := 0) hx hb dX11_isPlace_1 (by decide) ?_
  refine lv_iconst (v := 5) hx hb dX11_isPlace_2 (by decide) ?_
  refine k_callSi (As := [.int p0, .int 0, .int 5]) (rest := []) C hml (c_X11_isIn) (va_cwS 3 hts gX11_isPlace_X11_isIn rfl rfl rfl (by decide +kernel) ⟨by decide, by decide⟩) hW hS hB rfl hl.1 rfl (Nat.le_of_ble_eq_true rfl) dX11_isPlace_3 ⟨Nat.le_of_ble_eq_true rfl, Nat.le_of_ble_eq_true rfl⟩ (fun r9 S1 H locs hp9 hW hS => ?_)
  obtain ⟨e8, e9⟩ := hp9
  rw [e8] at hW
  subst e9
  refine lv_if_eq (tgt := 23) hx hb dX11_isPlace_6 (by decide) (fun c_6 => ?_) (fun c_6 => ?_)
  · have q_6 : ¬ (0 ≤ p0 ∧ p0 ≤ 5) := ite0.mp c_6
    refine lv_iconst (v := 0) hx hb dX11_isPlace_23 (by decide) ?_
    exact k_zret C hr hlk hW hS hB ⟨rfl, (if_neg (fun z => q_6 z.1)).symm⟩ (by decide) (Nat.le_refl _) (Nat.le_refl _) dX11_isPlace_24
  · have q_6 : (0 ≤ p0 ∧ p0 ≤ 5) := ite1.mp c_6
    refine lv_iload_n hx hb dX11_isPlace_9 rfl (lv_at hl 1 rfl) ?_
    refine lv_iconst (v := 0) hx hb dX11_isPlace_10 (by decide) ?_
    refine lv_bipush (v := 7) hx hb dX11_isPlace_11 (by decide) ?_
    refine k_callSi (As := [.int p1, .int 0, .int 7]) (rest := []) C hml (c_X11_isIn) (va_cwS 3 hts gX11_isPlace_X11_isIn rfl rfl rfl (by decide +kernel) ⟨by decide, by decide⟩) hW hS hB rfl hl.1 rfl (Nat.le_of_ble_eq_true rfl) dX11_isPlace_13 ⟨Nat.le_of_ble_eq_true rfl, Nat.le_of_ble_eq_true rfl⟩ (fun r9 S2 H locs hp9 hW hS => ?_)
    obtain ⟨e8, e9⟩ := hp9
    rw [e8] at hW
    subst e9
    refine lv_if_eq (tgt := 23) hx hb dX11_isPlace_16 (by decide) (fun c_16 => ?_) (fun c_16 => ?_)
    · have q_16 : ¬ (0 ≤ p1 ∧ p1 ≤ 7) := ite0.mp c_16
      refine lv_iconst (v := 0) hx hb dX11_isPlace_23 (by decide) ?_
      exact k_zret C hr hlk hW hS hB ⟨rfl, (if_neg (fun z => q_16 z.2)).symm⟩ (by decide) (Nat.le_refl _) (Nat.le_refl _) dX11_isPlace_24
    · have q_16 : (0 ≤ p1 ∧ p1 ≤ 7) := ite1.mp c_16
      refine lv_iconst (v := 1) hx hb dX11_isPlace_19 (by decide) ?_
      refine lv_goto (tgt := 24) hx hb dX11_isPlace_20 (by decide) ?_
      exact k_zret C hr hlk hW hS hB ⟨rfl, (if_pos ⟨q_6, q_16⟩).symm⟩ (by decide) (Nat.le_refl _) (Nat.le_refl _) dX11_isPlace_24
def mqN (g : MS) : Nat := (g.2.2 1131).toNatClampNeg
def MsgOk (g : MS) : Prop := g.2.2 1131 = nI (mqN g) ∧ mqN g ≤ 300
def mSendG (g : MS) (q : Nat) (x0 x1 x2 x3 x4 x5 x6 : Int32) : MS := iF (iI (iI (iI (iI (iI (iI (iI (iI (iI g 32 (8 * q) x0) 32 (8 * q + 1) x1) 32 (8 * q + 2) x2) 32 (8 * q + 3) x3) 32 (8 * q + 4) x4) 32 (8 * q + 5) x5) 32 (8 * q + 6) x6) 32 (8 * q + 7) 0) 33 q 1) 1131 (nI (q + 1))
def mSend (g : MS) (x0 x1 x2 x3 x4 x5 x6 : Int32) : MS × Int32 := if mqN g = 300 then (g, 0) else (mSendG g (mqN g) x0 x1 x2 x3 x4 x5 x6, 1)
theorem mSend_n (g : MS) (x0 x1 x2 x3 x4 x5 x6 : Int32) (f : Nat) (hf : f ≠ 1131) : (mSend g x0 x1 x2 x3 x4 x5 x6).1.2.2 f = g.2.2 f := by
  unfold mSend
  by_cases h : mqN g = 300
  · rw [if_pos h]
  · rw [if_neg h]; exact va_up_ne _ _ hf
theorem mSend_ok {g : MS} (h : MsgOk g) (x0 x1 x2 x3 x4 x5 x6 : Int32) : MsgOk (mSend g x0 x1 x2 x3 x4 x5 x6).1 := by
  unfold mSend
  by_cases z : mqN g = 300
  · rw [if_pos z]; exact h
  · rw [if_neg z]
    have e : (mSendG g (mqN g) x0 x1 x2 x3 x4 x5 x6).2.2 1131 = nI (mqN g + 1) := by simp [mSendG, iF, va_up]
    have e2 : mqN (mSendG g (mqN g) x0 x1 x2 x3 x4 x5 x6) = mqN g + 1 := by show ((mSendG g (mqN g) x0 x1 x2 x3 x4 x5 x6).2.2 1131).toNatClampNeg = _; rw [e]; exact nI_clamp (by have := h.2; omega)
    exact ⟨by rw [e2]; exact e, by rw [e2]; have := h.2; omega⟩
set_option maxRecDepth 100000 in
set_option maxHeartbeats 4000000 in
theorem c_X11_send {l : Launch} {D : va_G} {cy : Nat → ClassId} {B : Nat} {s0 : State} {S : PS} {a0 : Nat} {t : Nat → Nat} {g : MS} {x0 x1 x2 x3 x4 x5 x6 : Int32} (hR : MR S a0 t g) (hm : MsgOk g) : KI l yX11_send wsX11_send ({ frames := 0, cells := 0, slots := 0, locals := 0 }) D cy B s0 [.ref a0, .int x0, .int x1, .int x2, .int x3, .int x4, .int x5, .int x6] S (fun r S2 => MO S S2 a0 t ∧ MR S2 a0 t (mSend g x0 x1 x2 x3 x4 x5 x6).1 ∧ r = (mSend g x0 x1 x2 x3 x4 x5 x6).2) 0 0 := by
  refine k_body (own := RX11) (cc := cX11_send) (maxL := 9) (ret := (some .int)) rfl (by decide) rfl (Nat.le_of_ble_eq_true rfl) ?_
  intro p e s m below meth c C hml hr hlk hnm hB hW ls hl
  obtain ⟨hx, hb, hts, hown, hK, hEn⟩ := id C
  have hS : va_S (Aw B) s.heap s.heap [] := va_S.rf
  have hinX11 : ∀ w ∈ wsX110, w ∈ wsX11_send := by decide +kernel
  have l100 : Cond.fieldLink RX11 100 "LeaseGatesModel" "told" "[I" ∈ wsX11_send := by decide +kernel
  have l103 : Cond.fieldLink RX11 103 "LeaseGatesModel" "isThere" "[Z" ∈ wsX11_send := by decide +kernel
  have l166 : Cond.fieldLink RX11 166 "LeaseGatesModel" "messages" "I" ∈ wsX11_send := by decide +kernel
  have hl : lv_has ls 9 [(0, .ref a0), (1, .int x0), (2, .int x1), (3, .int x2), (4, .int x3), (5, .int x4), (6, .int x5), (7, .int x6)] := hl
  have hO : MO S S a0 t := MO.rf
  have hm2 := hm.2
  refine lv_aload_n hx hb dX11_send_0 rfl (lv_at hl 0 rfl) ?_
  refine g_1131 C hinX11 hW hR.1.1 l166 dX11_send_1 ?_
  refine top_i (show fI S 1131 a0 = nI (mqN g) from (hR.f 1131).trans hm.1) ?_
  refine lv_sipush (v := 300) hx hb dX11_send_4 (by decide) ?_
  refine lv_icmp_ne (tgt := 12) hx hb dX11_send_7 (by decide) (fun c_7 => ?_) (fun c_7 => ?_)
  · have q_7 : ¬ ((mqN g) = 300) := fun z => c_7 ((nI_eq (a := (mqN g)) (b := 300) (by omega) (by omega)).mpr z)
    refine lv_bipush (v := 8) hx hb dX11_send_12 (by decide) ?_
    refine lv_aload_n hx hb dX11_send_14 rfl (lv_at hl 0 rfl) ?_
    refine g_1131 C hinX11 hW hR.1.1 l166 dX11_send_15 ?_
    refine top_i (show fI S 1131 a0 = nI (mqN g) from (hR.f 1131).trans hm.1) ?_
    refine lv_imul hx hb dX11_send_18 ?_
    refine top_i (show 8 * (nI (mqN g)) = nI (8 * (mqN g)) from pk_mul 8 (mqN g)) ?_
    refine lv_istore (lv' := [(8, .int (nI (8 * (mqN g)))), (0, .ref a0), (1, .int x0), (2, .int x1), (3, .int x2), (4, .int x3), (5, .int x4), (6, .int x5), (7, .int x6)]) hx hb dX11_send_19 hl (by decide) rfl (fun ls hl => ?_)
    refine lv_aload_n hx hb dX11_send_21 rfl (lv_at hl 1 rfl) ?_
    refine g_1132 C hinX11 hW hR.1.1 (mA_32 hR.1) l100 dX11_send_22 ?_
    refine lv_iload hx hb dX11_send_25 (lv_at hl 0 rfl) ?_
    refine lv_iload_n hx hb dX11_send_27 rfl (lv_at hl 2 rfl) ?_
    refine a_Istore C hW hS (j := (8 * (mqN g))) (mK_32 hR.1) (mN_32 hR.1) rfl (by omega) (by omega) dX11_send_28 (fun S1 H locs e1 hW hS => ?_)
    have hR : MR S1 a0 t (iI g 32 (8 * (mqN g)) x0) := by rw [e1]; exact hR.wI
    replace hO : MO S S1 a0 t := by rw [e1]; exact hO.wI
    clear e1
    refine lv_aload_n hx hb dX11_send_29 rfl (lv_at hl 1 rfl) ?_
    refine g_1132 C hinX11 hW hR.1.1 (mA_32 hR.1) l100 dX11_send_30 ?_
    refine lv_iload hx hb dX11_send_33 (lv_at hl 0 rfl) ?_
    refine lv_iconst (v := 1) hx hb dX11_send_35 (by decide) ?_
    refine lv_iadd hx hb dX11_send_36 ?_
    refine top_i (show (nI (8 * (mqN g))) + 1 = nI ((8 * (mqN g)) + 1) from nI_add (8 * (mqN g)) 1) ?_
    refine lv_iload_n hx hb dX11_send_37 rfl (lv_at hl 3 rfl) ?_
    refine a_Istore C hW hS (j := ((8 * (mqN g)) + 1)) (mK_32 hR.1) (mN_32 hR.1) rfl (by omega) (by omega) dX11_send_38 (fun S2 H locs e1 hW hS => ?_)
    have hR : MR S2 a0 t (iI (iI g 32 (8 * (mqN g)) x0) 32 ((8 * (mqN g)) + 1) x1) := by rw [e1]; exact hR.wI
    replace hO : MO S S2 a0 t := by rw [e1]; exact hO.wI
    clear e1
    refine lv_aload_n hx hb dX11_send_39 rfl (lv_at hl 1 rfl) ?_
    refine g_1132 C hinX11 hW hR.1.1 (mA_32 hR.1) l100 dX11_send_40 ?_
    refine lv_iload hx hb dX11_send_43 (lv_at hl 0 rfl) ?_
    refine lv_iconst (v := 2) hx hb dX11_send_45 (by decide) ?_
    refine lv_iadd hx hb dX11_send_46 ?_
    refine top_i (show (nI (8 * (mqN g))) + 2 = nI ((8 * (mqN g)) + 2) from nI_add (8 * (mqN g)) 2) ?_
    refine lv_iload_n hx hb dX11_send_47 rfl (lv_at hl 4 rfl) ?_
    refine a_Istore C hW hS (j := ((8 * (mqN g)) + 2)) (mK_32 hR.1) (mN_32 hR.1) rfl (by omega) (by omega) dX11_send_48 (fun S3 H locs e1 hW hS => ?_)
    have hR : MR S3 a0 t (iI (iI (iI g 32 (8 * (mqN g)) x0) 32 ((8 * (mqN g)) + 1) x1) 32 ((8 * (mqN g)) + 2) x2) := by rw [e1]; exact hR.wI
    replace hO : MO S S3 a0 t := by rw [e1]; exact hO.wI
    clear e1
    refine lv_aload_n hx hb dX11_send_49 rfl (lv_at hl 1 rfl) ?_
    refine g_1132 C hinX11 hW hR.1.1 (mA_32 hR.1) l100 dX11_send_50 ?_
    refine lv_iload hx hb dX11_send_53 (lv_at hl 0 rfl) ?_
    refine lv_iconst (v := 3) hx hb dX11_send_55 (by decide) ?_
    refine lv_iadd hx hb dX11_send_56 ?_
    refine top_i (show (nI (8 * (mqN g))) + 3 = nI ((8 * (mqN g)) + 3) from nI_add (8 * (mqN g)) 3) ?_
    refine lv_iload hx hb dX11_send_57 (lv_at hl 5 rfl) ?_
    refine a_Istore C hW hS (j := ((8 * (mqN g)) + 3)) (mK_32 hR.1) (mN_32 hR.1) rfl (by omega) (by omega) dX11_send_59 (fun S4 H locs e1 hW hS => ?_)
    have hR : MR S4 a0 t (iI (iI (iI (iI g 32 (8 * (mqN g)) x0) 32 ((8 * (mqN g)) + 1) x1) 32 ((8 * (mqN g)) + 2) x2) 32 ((8 * (mqN g)) + 3) x3) := by rw [e1]; exact hR.wI
    replace hO : MO S S4 a0 t := by rw [e1]; exact hO.wI
    clear e1
    refine lv_aload_n hx hb dX11_send_60 rfl (lv_at hl 1 rfl) ?_
    refine g_1132 C hinX11 hW hR.1.1 (mA_32 hR.1) l100 dX11_send_61 ?_
    refine lv_iload hx hb dX11_send_64 (lv_at hl 0 rfl) ?_
    refine lv_iconst (v := 4) hx hb dX11_send_66 (by decide) ?_
    refine lv_iadd hx hb dX11_send_67 ?_
    refine top_i (show (nI (8 * (mqN g))) + 4 = nI ((8 * (mqN g)) + 4) from nI_add (8 * (mqN g)) 4) ?_
    refine lv_iload hx hb dX11_send_68 (lv_at hl 6 rfl) ?_
    refine a_Istore C hW hS (j := ((8 * (mqN g)) + 4)) (mK_32 hR.1) (mN_32 hR.1) rfl (by omega) (by omega) dX11_send_70 (fun S5 H locs e1 hW hS => ?_)
    have hR : MR S5 a0 t (iI (iI (iI (iI (iI g 32 (8 * (mqN g)) x0) 32 ((8 * (mqN g)) + 1) x1) 32 ((8 * (mqN g)) + 2) x2) 32 ((8 * (mqN g)) + 3) x3) 32 ((8 * (mqN g)) + 4) x4) := by rw [e1]; exact hR.wI
    replace hO : MO S S5 a0 t := by rw [e1]; exact hO.wI
    clear e1
    refine lv_aload_n hx hb dX11_send_71 rfl (lv_at hl 1 rfl) ?_
    refine g_1132 C hinX11 hW hR.1.1 (mA_32 hR.1) l100 dX11_send_72 ?_
    refine lv_iload hx hb dX11_send_75 (lv_at hl 0 rfl) ?_
    refine lv_iconst (v := 5) hx hb dX11_send_77 (by decide) ?_
    refine lv_iadd hx hb dX11_send_78 ?_
    refine top_i (show (nI (8 * (mqN g))) + 5 = nI ((8 * (mqN g)) + 5) from nI_add (8 * (mqN g)) 5) ?_
    refine lv_iload hx hb dX11_send_79 (lv_at hl 7 rfl) ?_
    refine a_Istore C hW hS (j := ((8 * (mqN g)) + 5)) (mK_32 hR.1) (mN_32 hR.1) rfl (by omega) (by omega) dX11_send_81 (fun S6 H locs e1 hW hS => ?_)
    have hR : MR S6 a0 t (iI (iI (iI (iI (iI (iI g 32 (8 * (mqN g)) x0) 32 ((8 * (mqN g)) + 1) x1) 32 ((8 * (mqN g)) + 2) x2) 32 ((8 * (mqN g)) + 3) x3) 32 ((8 * (mqN g)) + 4) x4) 32 ((8 * (mqN g)) + 5) x5) := by rw [e1]; exact hR.wI
    replace hO : MO S S6 a0 t := by rw [e1]; exact hO.wI
    clear e1
    refine lv_aload_n hx hb dX11_send_82 rfl (lv_at hl 1 rfl) ?_
    refine g_1132 C hinX11 hW hR.1.1 (mA_32 hR.1) l100 dX11_send_83 ?_
    refine lv_iload hx hb dX11_send_86 (lv_at hl 0 rfl) ?_
    refine lv_bipush (v := 6) hx hb dX11_send_88 (by decide) ?_
    refine lv_iadd hx hb dX11_send_90 ?_
    refine top_i (show (nI (8 * (mqN g))) + 6 = nI ((8 * (mqN g)) + 6) from nI_add (8 * (mqN g)) 6) ?_
    refine lv_iload hx hb dX11_send_91 (lv_at hl 8 rfl) ?_
    refine a_Istore C hW hS (j := ((8 * (mqN g)) + 6)) (mK_32 hR.1) (mN_32 hR.1) rfl (by omega) (by omega) dX11_send_93 (fun S7 H locs e1 hW hS => ?_)
    have hR : MR S7 a0 t (iI (iI (iI (iI (iI (iI (iI g 32 (8 * (mqN g)) x0) 32 ((8 * (mqN g)) + 1) x1) 32 ((8 * (mqN g)) + 2) x2) 32 ((8 * (mqN g)) + 3) x3) 32 ((8 * (mqN g)) + 4) x4) 32 ((8 * (mqN g)) + 5) x5) 32 ((8 * (mqN g)) + 6) x6) := by rw [e1]; exact hR.wI
    replace hO : MO S S7 a0 t := by rw [e1]; exact hO.wI
    clear e1
    refine lv_aload_n hx hb dX11_send_94 rfl (lv_at hl 1 rfl) ?_
    refine g_1132 C hinX11 hW hR.1.1 (mA_32 hR.1) l100 dX11_send_95 ?_
    refine lv_iload hx hb dX11_send_98 (lv_at hl 0 rfl) ?_
    refine lv_bipush (v := 7) hx hb dX11_send_100 (by decide) ?_
    refine lv_iadd hx hb dX11_send_102 ?_
    refine top_i (show (nI (8 * (mqN g))) + 7 = nI ((8 * (mqN g)) + 7) from nI_add (8 * (mqN g)) 7) ?_
    refine lv_iconst (v := 0) hx hb dX11_send_103 (by decide) ?_
    refine a_Istore C hW hS (j := ((8 * (mqN g)) + 7)) (mK_32 hR.1) (mN_32 hR.1) rfl (by omega) (by omega) dX11_send_104 (fun S8 H locs e1 hW hS => ?_)
    have hR : MR S8 a0 t (iI (iI (iI (iI (iI (iI (iI (iI g 32 (8 * (mqN g)) x0) 32 ((8 * (mqN g)) + 1) x1) 32 ((8 * (mqN g)) + 2) x2) 32 ((8 * (mqN g)) + 3) x3) 32 ((8 * (mqN g)) + 4) x4) 32 ((8 * (mqN g)) + 5) x5) 32 ((8 * (mqN g)) + 6) x6) 32 ((8 * (mqN g)) + 7) 0) := by rw [e1]; exact hR.wI
    replace hO : MO S S8 a0 t := by rw [e1]; exact hO.wI
    clear e1
    refine lv_aload_n hx hb dX11_send_105 rfl (lv_at hl 1 rfl) ?_
    refine g_1133 C hinX11 hW hR.1.1 (mA_33 hR.1) l103 dX11_send_106 ?_
    refine lv_aload_n hx hb dX11_send_109 rfl (lv_at hl 1 rfl) ?_
    refine g_1131 C hinX11 hW hR.1.1 l166 dX11_send_110 ?_
    refine top_i (show fI S8 1131 a0 = nI (mqN g) from (hR.f 1131).trans hm.1) ?_
    refine lv_iconst (v := 1) hx hb dX11_send_113 (by decide) ?_
    refine a_Zstore C hW hS (j := (mqN g)) (mK_33 hR.1) (mN_33 hR.1) rfl (by omega) (by omega) (by decide) dX11_send_114 (fun S9 H locs e1 hW hS => ?_)
    have hR : MR S9 a0 t (iI (iI (iI (iI (iI (iI (iI (iI (iI g 32 (8 * (mqN g)) x0) 32 ((8 * (mqN g)) + 1) x1) 32 ((8 * (mqN g)) + 2) x2) 32 ((8 * (mqN g)) + 3) x3) 32 ((8 * (mqN g)) + 4) x4) 32 ((8 * (mqN g)) + 5) x5) 32 ((8 * (mqN g)) + 6) x6) 32 ((8 * (mqN g)) + 7) 0) 33 (mqN g) 1) := by rw [e1]; exact hR.wI
    replace hO : MO S S9 a0 t := by rw [e1]; exact hO.wI
    clear e1
    refine lv_aload_n hx hb dX11_send_115 rfl (lv_at hl 1 rfl) ?_
    refine lv_dup hx hb dX11_send_116 rfl ?_
    refine g_1131 C hinX11 hW hR.1.1 l166 dX11_send_117 ?_
    refine top_i (show fI S9 1131 a0 = nI (mqN g) from (hR.f 1131).trans hm.1) ?_
    refine lv_iconst (v := 1) hx hb dX11_send_120 (by decide) ?_
    refine lv_iadd hx hb dX11_send_121 ?_
    refine top_i (show (nI (mqN g)) + 1 = nI ((mqN g) + 1) from nI_add (mqN g) 1) ?_
    refine p_1131 C hinX11 hW hS hR.1.1 l166 dX11_send_122 (fun S10 H locs e1 hW hS => ?_)
    have hR : MR S10 a0 t (iF (iI (iI (iI (iI (iI (iI (iI (iI (iI g 32 (8 * (mqN g)) x0) 32 ((8 * (mqN g)) + 1) x1) 32 ((8 * (mqN g)) + 2) x2) 32 ((8 * (mqN g)) + 3) x3) 32 ((8 * (mqN g)) + 4) x4) 32 ((8 * (mqN g)) + 5) x5) 32 ((8 * (mqN g)) + 6) x6) 32 ((8 * (mqN g)) + 7) 0) 33 (mqN g) 1) 1131 (nI ((mqN g) + 1))) := by rw [e1]; exact hR.wF
    replace hO : MO S S10 a0 t := by rw [e1]; exact hO.wF
    clear e1
    refine lv_iconst (v := 1) hx hb dX11_send_125 (by decide) ?_
    exact k_iret C hr hlk hW hS hB ⟨hO, by rw [mSend, if_neg q_7]; exact hR, by rw [mSend, if_neg q_7]⟩ (Nat.le_refl _) (Nat.le_refl _) dX11_send_126
  · have q_7 : (mqN g) = 300 := (nI_eq (a := (mqN g)) (b := 300) (by omega) (by omega)).mp c_7
    refine lv_iconst (v := 0) hx hb dX11_send_10 (by decide) ?_
    exact k_iret C hr hlk hW hS hB ⟨hO, by rw [mSend, if_pos q_7]; exact hR, by rw [mSend, if_pos q_7]⟩ (Nat.le_refl _) (Nat.le_refl _) dX11_send_11
/-- one hold looked at: given back, or not -/
def mGB (g : MS) (gt kk : Nat) : Nat → MS × Int32
  | 0 => (g, 0)
  | h + 1 =>
    if mHold (mGB g gt kk h).1 gt kk h then
      if mLive (mGB g gt kk h).1 gt h then
        if mSpan (mGB g gt kk h).1 h ≤ 2 * mAge (mGB g gt kk h).1 gt h then
          ((mSend (iI (mGB g gt kk h).1 27 h 0) 2 (nI gt) (nI kk) ((mGB g gt kk h).1.1 28 h) ((mGB g gt kk h).1.1 20 gt) (-1) (nI h)).1, (mGB g gt kk h).2 + (mSend (iI (mGB g gt kk h).1 27 h 0) 2 (nI gt) (nI kk) ((mGB g gt kk h).1.1 28 h) ((mGB g gt kk h).1.1 20 gt) (-1) (nI h)).2)
        else mGB g gt kk h
      else (iI (mGB g gt kk h).1 27 h 0, (mGB g gt kk h).2)
    else mGB g gt kk h
theorem mGB_n (g : MS) (gt kk h f : Nat) (hf : f ≠ 1131) : (mGB g gt kk h).1.2.2 f = g.2.2 f := by
  induction h with
  | zero => rfl
  | succ h ih =>
    rw [mGB]
    split
    · split
      · split
        · exact (mSend_n _ _ _ _ _ _ _ _ f hf).trans ih
        · exact ih
      · exact ih
    · exact ih
theorem mGB_ok {g : MS} (hm : MsgOk g) (gt kk h : Nat) : MsgOk (mGB g gt kk h).1 := by
  induction h with
  | zero => exact hm
  | succ h ih =>
    rw [mGB]
    split
    · split
      · split
        · exact mSend_ok (g := iI (mGB g gt kk h).1 27 h 0) ih _ _ _ _ _ _ _
        · exact ih
      · exact ih
    · exact ih
set_option maxRecDepth 100000 in
set_option maxHeartbeats 4000000 in
theorem c_X11_giveBack {l : Launch} {D : va_G} {cy : Nat → ClassId} {B : Nat} {s0 : State} {S : PS} {a0 : Nat} {t : Nat → Nat} {g : MS} {gt kk n : Nat} (hR : MR S a0 t g) (hn : g.2.2 1107 = nI n) (hn3 : n ≤ 300) (hg : gt < 6) (hm : MsgOk g) : KI l yX11_giveBack wsX11_giveBack ({ frames := 3, cells := 0, slots := 0, locals := 65 }) D cy B s0 [.ref a0, .int (nI gt), .int (nI kk)] S (fun r S2 => MO S S2 a0 t ∧ MR S2 a0 t (mGB g gt kk n).1 ∧ r = (mGB g gt kk n).2) 0 0 := by
  refine k_body (own := RX11) (cc := cX11_giveBack) (maxL := 7) (ret := (some .int)) rfl (by decide) rfl (Nat.le_of_ble_eq_true rfl) ?_
  intro p e s m below meth c C hml hr hlk hnm hB hW ls hl
  obtain ⟨hx, hb, hts, hown, hK, hEn⟩ := id C
  have hS : va_S (Aw B) s.heap s.heap [] := va_S.rf
  have hinX11 : ∀ w ∈ wsX110, w ∈ wsX11_giveBack := by decide +kernel
  have l67 : Cond.fieldLink RX11 67 "LeaseGatesModel" "births" "[I" ∈ wsX11_giveBack := by decide +kernel
  have l88 : Cond.fieldLink RX11 88 "LeaseGatesModel" "holder" "[I" ∈ wsX11_giveBack := by decide +kernel
  have l91 : Cond.fieldLink RX11 91 "LeaseGatesModel" "held" "[I" ∈ wsX11_giveBack := by decide +kernel
  have l97 : Cond.fieldLink RX11 97 "LeaseGatesModel" "heldLength" "[I" ∈ wsX11_giveBack := by decide +kernel
  have l111 : Cond.fieldLink RX11 111 "LeaseGatesModel" "loans" "I" ∈ wsX11_giveBack := by decide +kernel
  have hl : lv_has ls 7 [(0, .ref a0), (1, .int (nI gt)), (2, .int (nI kk))] := hl
  have hO : MO S S a0 t := MO.rf
  refine lv_iconst (v := 0) hx hb dX11_giveBack_0 (by decide) ?_
  refine lv_istore_n (lv' := [(3, .int 0), (0, .ref a0), (1, .int (nI gt)), (2, .int (nI kk))]) hx hb dX11_giveBack_1 rfl hl (by decide) rfl (fun ls hl => ?_)
  refine lv_iconst (v := 0) hx hb dX11_giveBack_2 (by decide) ?_
  refine lv_istore (lv' := [(4, .int 0), (3, .int 0), (0, .ref a0), (1, .int (nI gt)), (2, .int (nI kk))]) hx hb dX11_giveBack_3 hl (by decide) rfl (fun ls hl => ?_)
  have lp : ∀ (d k : Nat) (x3 : Int32) (Sk : PS) (H : Heap) (locs : List Loc) (ls : Array Slot), k ≤ n → n - k < d → MR Sk a0 t (mGB g gt kk k).1 → MO S Sk a0 t → x3 = (mGB g gt kk k).2 → PW D cy B Sk H → va_S (Aw B) s.heap H locs → lv_has ls 7 [(0, .ref a0), (1, .int (nI gt)), (2, .int (nI kk)), (3, .int x3), (4, .int (nI k))] → W p l e ({ frames := 3, cells := 0, slots := 0, locals := 65 }) s m [.ref a0, .int (nI gt), .int (nI kk)].toArray below meth c H locs 0 0 (MQ below (va_Qi (fun r S2 => MO S S2 a0 t ∧ MR S2 a0 t (mGB g gt kk n).1 ∧ r = (mGB g gt kk n).2) (PreW D cy B s0) (Aw B)) [.ref a0, .int (nI gt), .int (nI kk)].toArray s 0 0 (Aw B)) (F0 m 5 ls []) := by
    intro d
    induction d with
    | zero => intro k x3 Sk H locs ls _ hd; exact absurd hd (Nat.not_lt_zero _)
    | succ d ih =>
      intro k x3 Sk H locs ls hk hd hR hO e3 hW hS hl
      replace hn := (mGB_n g gt kk k 1107 (by decide)).trans hn
      replace hm := mGB_ok hm gt kk k
      refine lv_iload hx hb dX11_giveBack_5 (lv_at hl 4 rfl) ?_
      refine lv_aload_n hx hb dX11_giveBack_7 rfl (lv_at hl 0 rfl) ?_
      refine g_1107 C hinX11 hW hR.1.1 l111 dX11_giveBack_8 ?_
      refine top_i (show fI Sk 1107 a0 = nI n from (hR.f 1107).trans hn) ?_
      refine lv_icmp_ge (tgt := 123) hx hb dX11_giveBack_11 (by decide) (fun c_11 => ?_) (fun c_11 => ?_)
      · have q_11 : n ≤ k := (nI_leI (a := n) (b := k) (by omega) (by omega)).mp c_11
        refine lv_iload_n hx hb dX11_giveBack_123 rfl (lv_at hl 3 rfl) ?_
        exact k_iret C hr hlk hW hS hB ⟨hO, by rw [show k = n by omega] at hR; exact hR, by rw [show k = n by omega] at e3; exact e3⟩ (Nat.le_refl _) (Nat.le_refl _) dX11_giveBack_124
      · have q_11 : ¬ (n ≤ k) := fun z => c_11 ((nI_leI (a := n) (b := k) (by omega) (by omega)).mpr z)
        refine lv_aload_n hx hb dX11_giveBack_14 rfl (lv_at hl 0 rfl) ?_
        refine lv_iload_n hx hb dX11_giveBack_15 rfl (lv_at hl 1 rfl) ?_
        refine lv_iload_n hx hb dX11_giveBack_16 rfl (lv_at hl 2 rfl) ?_
        refine lv_iload hx hb dX11_giveBack_17 (lv_at hl 4 rfl) ?_
        refine k_callVi (As := [.int (nI gt), .int (nI kk), .int (nI k)]) (rest := []) C hml (c_X11_isHold (gt := gt) (kk := kk) (h := k) hR (by omega)) (cwV 3 hts gX11_giveBack_X11_isHold rfl rfl rfl (by decide +kernel) ⟨by decide, by decide⟩) hW hS hB (hR.1.1).1 (pAt_11 (hR.1.1).2) rfl rfl hl.1 rfl (Nat.le_of_ble_eq_true rfl) dX11_giveBack_19 ⟨Nat.le_of_ble_eq_true rfl, Nat.le_of_ble_eq_true rfl⟩ (fun r9 S1 H locs hp9 hW hS => ?_)
        obtain ⟨e8, e9⟩ := hp9
        rw [e8] at hW
        subst e9
        refine lv_if_eq (tgt := 117) hx hb dX11_giveBack_22 (by decide) (fun c_22 => ?_) (fun c_22 => ?_)
        · have q_22 : ¬ (mHold ((mGB g gt kk k).1) gt kk k) := ite0.mp c_22
          refine lv_iinc (v := nI (k + 1)) (lv' := [(4, .int (nI (k + 1))), (0, .ref a0), (1, .int (nI gt)), (2, .int (nI kk)), (3, .int x3)]) hx hb dX11_giveBack_117 hl (k := 4) rfl (nI_add k 1) (by decide) rfl (fun ls hl => ?_)
          refine lv_goto (tgt := 5) hx hb dX11_giveBack_120 (by decide) ?_
          exact ih (k + 1) _ _ _ _ ls (by omega) (by omega) (by rw [mGB, if_neg q_22]; exact hR) hO (by rw [mGB, if_neg q_22]; exact e3) hW hS (lv_sub hl [1, 2, 3, 4, 0] rfl)
        · have q_22 : (mHold ((mGB g gt kk k).1) gt kk k) := ite1.mp c_22
          refine lv_aload_n hx hb dX11_giveBack_25 rfl (lv_at hl 0 rfl) ?_
          refine lv_iload_n hx hb dX11_giveBack_26 rfl (lv_at hl 1 rfl) ?_
          refine lv_iload hx hb dX11_giveBack_27 (lv_at hl 4 rfl) ?_
          refine k_callVi (As := [.int (nI gt), .int (nI k)]) (rest := []) C hml (c_X11_isLive (gt := gt) (h := k) hR (by omega) (by omega)) (cwV 2 hts gX11_giveBack_X11_isLive rfl rfl rfl (by decide +kernel) ⟨by decide, by decide⟩) hW hS hB (hR.1.1).1 (pAt_11 (hR.1.1).2) rfl rfl hl.1 rfl (Nat.le_of_ble_eq_true rfl) dX11_giveBack_29 ⟨Nat.le_of_ble_eq_true rfl, Nat.le_of_ble_eq_true rfl⟩ (fun r9 S2 H locs hp9 hW hS => ?_)
          obtain ⟨e8, e9⟩ := hp9
          rw [e8] at hW
          subst e9
          refine lv_istore (lv' := [(5, .int (if mLive ((mGB g gt kk k).1) gt k then 1 else 0)), (0, .ref a0), (1, .int (nI gt)), (2, .int (nI kk)), (3, .int x3), (4, .int (nI k))]) hx hb dX11_giveBack_32 hl (by decide) rfl (fun ls hl => ?_)
          refine lv_iconst (v := 2) hx hb dX11_giveBack_34 (by decide) ?_
          refine lv_aload_n hx hb dX11_giveBack_35 rfl (lv_at hl 1 rfl) ?_
          refine lv_iload_n hx hb dX11_giveBack_36 rfl (lv_at hl 2 rfl) ?_
          refine lv_iload hx hb dX11_giveBack_37 (lv_at hl 5 rfl) ?_
          refine k_callVi (As := [.int (nI gt), .int (nI k)]) (rest := [.int 2]) C hml (c_X11_age (gt := gt) (h := k) hR (by omega) (by omega)) (cwV 2 hts gX11_giveBack_X11_age rfl rfl rfl (by decide +kernel) ⟨by decide, by decide⟩) hW hS hB (hR.1.1).1 (pAt_11 (hR.1.1).2) rfl rfl hl.1 rfl (Nat.le_of_ble_eq_true rfl) dX11_giveBack_39 ⟨Nat.le_of_ble_eq_true rfl, Nat.le_of_ble_eq_true rfl⟩ (fun r9 S3 H locs hp9 hW hS => ?_)
          obtain ⟨e8, e9⟩ := hp9
          rw [e8] at hW
          subst e9
          refine lv_imul hx hb dX11_giveBack_42 ?_
          refine lv_aload_n hx hb dX11_giveBack_43 rfl (lv_at hl 1 rfl) ?_
          refine g_1130 C hinX11 hW hR.1.1 (mA_30 hR.1) l97 dX11_giveBack_44 ?_
          refine lv_iload hx hb dX11_giveBack_47 (lv_at hl 5 rfl) ?_
          refine a_Iload C hW (j := k) (mK_30 hR.1) (mN_30 hR.1) rfl (by omega) (by omega) dX11_giveBack_49 ?_
          refine top_i (show aI Sk (t 30) k = ((mGB g gt kk k).1).1 30 k from hR.i 30 k) ?_
          refine k_callSi (As := [.int (((mGB g gt kk k).1).1 30 k)]) (rest := [.int (2 * (mAge ((mGB g gt kk k).1) gt k))]) C hml (c_X11_liveTime) (va_cwS 1 hts gX11_giveBack_X11_liveTime rfl rfl rfl (by decide +kernel) ⟨by decide, by decide⟩) hW hS hB rfl hl.1 rfl (Nat.le_of_ble_eq_true rfl) dX11_giveBack_50 ⟨Nat.le_of_ble_eq_true rfl, Nat.le_of_ble_eq_true rfl⟩ (fun r9 S4 H locs hp9 hW hS => ?_)
          obtain ⟨e8, e9⟩ := hp9
          rw [e8] at hW
          subst e9
          refine lv_icmp_lt (tgt := 60) hx hb dX11_giveBack_53 (by decide) (fun c_53 => ?_) (fun c_53 => ?_)
          · refine lv_iconst (v := 0) hx hb dX11_giveBack_60 (by decide) ?_
            refine lv_istore (lv' := [(6, .int 0), (5, .int (if mLive ((mGB g gt kk k).1) gt k then 1 else 0)), (0, .ref a0), (1, .int (nI gt)), (2, .int (nI kk)), (3, .int x3), (4, .int (nI k))]) hx hb dX11_giveBack_61 hl (by decide) rfl (fun ls hl => ?_)
            refine lv_iload hx hb dX11_giveBack_63 (lv_at hl 1 rfl) ?_
            refine lv_if_eq (tgt := 73) hx hb dX11_giveBack_65 (by decide) (fun c_65 => ?_) (fun c_65 => ?_)
            · have q_65 : ¬ (mLive ((mGB g gt kk k).1) gt k) := ite0.mp c_65
              refine lv_aload_n hx hb dX11_giveBack_73 rfl (lv_at hl 2 rfl) ?_
              refine g_1127 C hinX11 hW hR.1.1 (mA_27 hR.1) l88 dX11_giveBack_74 ?_
              refine lv_iload hx hb dX11_giveBack_77 (lv_at hl 6 rfl) ?_
              refine lv_iconst (v := 0) hx hb dX11_giveBack_79 (by decide) ?_
              refine a_Istore C hW hS (j := k) (mK_27 hR.1) (mN_27 hR.1) rfl (by omega) (by omega) dX11_giveBack_80 (fun S5 H locs e1 hW hS => ?_)
              have hR : MR S5 a0 t (iI ((mGB g gt kk k).1) 27 k 0) := by rw [e1]; exact hR.wI
              replace hO : MO S S5 a0 t := by rw [e1]; exact hO.wI
              clear e1
              refine lv_iload hx hb dX11_giveBack_81 (lv_at hl 1 rfl) ?_
              refine lv_if_eq (tgt := 117) hx hb dX11_giveBack_83 (by decide) (fun c_83 => ?_) (fun c_83 => absurd c_65 c_83)
              have q_83 : ¬ (mLive ((mGB g gt kk k).1) gt k) := ite0.mp c_83
              refine lv_iinc (v := nI (k + 1)) (lv' := [(4, .int (nI (k + 1))), (6, .int 0), (5, .int (if mLive ((mGB g gt kk k).1) gt k then 1 else 0)), (0, .ref a0), (1, .int (nI gt)), (2, .int (nI kk)), (3, .int x3)]) hx hb dX11_giveBack_117 hl (k := 6) rfl (nI_add k 1) (by decide) rfl (fun ls hl => ?_)
              refine lv_goto (tgt := 5) hx hb dX11_giveBack_120 (by decide) ?_
              exact ih (k + 1) _ _ _ _ ls (by omega) (by omega) (by rw [mGB, if_pos q_22, if_neg q_65]; exact hR) hO (by rw [mGB, if_pos q_22, if_neg q_65]; exact e3) hW hS (lv_sub hl [3, 4, 5, 6, 0] rfl)
            · have q_65 : (mLive ((mGB g gt kk k).1) gt k) := ite1.mp c_65
              refine lv_iload hx hb dX11_giveBack_68 (lv_at hl 0 rfl) ?_
              refine lv_if_eq (tgt := 81) hx hb dX11_giveBack_70 (by decide) (fun c9 => ?_) (fun c9 => absurd c9 (by decide))
              refine lv_iload hx hb dX11_giveBack_81 (lv_at hl 1 rfl) ?_
              refine lv_if_eq (tgt := 117) hx hb dX11_giveBack_83 (by decide) (fun c_83 => absurd c_83 c_65) (fun c_83 => ?_)
              have q_83 : (mLive ((mGB g gt kk k).1) gt k) := ite1.mp c_83
              refine lv_iload hx hb dX11_giveBack_86 (lv_at hl 0 rfl) ?_
              refine lv_if_eq (tgt := 117) hx hb dX11_giveBack_88 (by decide) (fun c9 => ?_) (fun c9 => absurd c9 (by decide))
              refine lv_iinc (v := nI (k + 1)) (lv' := [(4, .int (nI (k + 1))), (6, .int 0), (5, .int (if mLive ((mGB g gt kk k).1) gt k then 1 else 0)), (0, .ref a0), (1, .int (nI gt)), (2, .int (nI kk)), (3, .int x3)]) hx hb dX11_giveBack_117 hl (k := 6) rfl (nI_add k 1) (by decide) rfl (fun ls hl => ?_)
              refine lv_goto (tgt := 5) hx hb dX11_giveBack_120 (by decide) ?_
              exact ih (k + 1) _ _ _ _ ls (by omega) (by omega) (by rw [mGB, if_pos q_22, if_pos q_65, if_neg (Int32.not_le.mpr c_53)]; exact hR) hO (by rw [mGB, if_pos q_22, if_pos q_65, if_neg (Int32.not_le.mpr c_53)]; exact e3) hW hS (lv_sub hl [3, 4, 5, 6, 0] rfl)
          · refine lv_iconst (v := 1) hx hb dX11_giveBack_56 (by decide) ?_
            refine lv_goto (tgt := 61) hx hb dX11_giveBack_57 (by decide) ?_
            refine lv_istore (lv' := [(6, .int 1), (5, .int (if mLive ((mGB g gt kk k).1) gt k then 1 else 0)), (0, .ref a0), (1, .int (nI gt)), (2, .int (nI kk)), (3, .int x3), (4, .int (nI k))]) hx hb dX11_giveBack_61 hl (by decide) rfl (fun ls hl => ?_)
            refine lv_iload hx hb dX11_giveBack_63 (lv_at hl 1 rfl) ?_
            refine lv_if_eq (tgt := 73) hx hb dX11_giveBack_65 (by decide) (fun c_65 => ?_) (fun c_65 => ?_)
            · have q_65 : ¬ (mLive ((mGB g gt kk k).1) gt k) := ite0.mp c_65
              refine lv_aload_n hx hb dX11_giveBack_73 rfl (lv_at hl 2 rfl) ?_
              refine g_1127 C hinX11 hW hR.1.1 (mA_27 hR.1) l88 dX11_giveBack_74 ?_
              refine lv_iload hx hb dX11_giveBack_77 (lv_at hl 6 rfl) ?_
              refine lv_iconst (v := 0) hx hb dX11_giveBack_79 (by decide) ?_
              refine a_Istore C hW hS (j := k) (mK_27 hR.1) (mN_27 hR.1) rfl (by omega) (by omega) dX11_giveBack_80 (fun S6 H locs e1 hW hS => ?_)
              have hR : MR S6 a0 t (iI ((mGB g gt kk k).1) 27 k 0) := by rw [e1]; exact hR.wI
              replace hO : MO S S6 a0 t := by rw [e1]; exact hO.wI
              clear e1
              refine lv_iload hx hb dX11_giveBack_81 (lv_at hl 1 rfl) ?_
              refine lv_if_eq (tgt := 117) hx hb dX11_giveBack_83 (by decide) (fun c_83 => ?_) (fun c_83 => absurd c_65 c_83)
              have q_83 : ¬ (mLive ((mGB g gt kk k).1) gt k) := ite0.mp c_83
              refine lv_iinc (v := nI (k + 1)) (lv' := [(4, .int (nI (k + 1))), (6, .int 1), (5, .int (if mLive ((mGB g gt kk k).1) gt k then 1 else 0)), (0, .ref a0), (1, .int (nI gt)), (2, .int (nI kk)), (3, .int x3)]) hx hb dX11_giveBack_117 hl (k := 6) rfl (nI_add k 1) (by decide) rfl (fun ls hl => ?_)
              refine lv_goto (tgt := 5) hx hb dX11_giveBack_120 (by decide) ?_
              exact ih (k + 1) _ _ _ _ ls (by omega) (by omega) (by rw [mGB, if_pos q_22, if_neg q_65]; exact hR) hO (by rw [mGB, if_pos q_22, if_neg q_65]; exact e3) hW hS (lv_sub hl [3, 4, 5, 6, 0] rfl)
            · have q_65 : (mLive ((mGB g gt kk k).1) gt k) := ite1.mp c_65
              refine lv_iload hx hb dX11_giveBack_68 (lv_at hl 0 rfl) ?_
              refine lv_if_eq (tgt := 81) hx hb dX11_giveBack_70 (by decide) (fun c9 => absurd c9 (by decide)) (fun c9 => ?_)
              refine lv_aload_n hx hb dX11_giveBack_73 rfl (lv_at hl 2 rfl) ?_
              refine g_1127 C hinX11 hW hR.1.1 (mA_27 hR.1) l88 dX11_giveBack_74 ?_
              refine lv_iload hx hb dX11_giveBack_77 (lv_at hl 6 rfl) ?_
              refine lv_iconst (v := 0) hx hb dX11_giveBack_79 (by decide) ?_
              refine a_Istore C hW hS (j := k) (mK_27 hR.1) (mN_27 hR.1) rfl (by omega) (by omega) dX11_giveBack_80 (fun S7 H locs e1 hW hS => ?_)
              have hR : MR S7 a0 t (iI ((mGB g gt kk k).1) 27 k 0) := by rw [e1]; exact hR.wI
              replace hO : MO S S7 a0 t := by rw [e1]; exact hO.wI
              clear e1
              refine lv_iload hx hb dX11_giveBack_81 (lv_at hl 1 rfl) ?_
              refine lv_if_eq (tgt := 117) hx hb dX11_giveBack_83 (by decide) (fun c_83 => absurd c_83 c_65) (fun c_83 => ?_)
              have q_83 : (mLive ((mGB g gt kk k).1) gt k) := ite1.mp c_83
              refine lv_iload hx hb dX11_giveBack_86 (lv_at hl 0 rfl) ?_
              refine lv_if_eq (tgt := 117) hx hb dX11_giveBack_88 (by decide) (fun c9 => absurd c9 (by decide)) (fun c9 => ?_)
              refine lv_iload_n hx hb dX11_giveBack_91 rfl (lv_at hl 5 rfl) ?_
              refine lv_aload_n hx hb dX11_giveBack_92 rfl (lv_at hl 2 rfl) ?_
              refine lv_iconst (v := 2) hx hb dX11_giveBack_93 (by decide) ?_
              refine lv_iload_n hx hb dX11_giveBack_94 rfl (lv_at hl 3 rfl) ?_
              refine lv_iload_n hx hb dX11_giveBack_95 rfl (lv_at hl 4 rfl) ?_
              refine lv_aload_n hx hb dX11_giveBack_96 rfl (lv_at hl 2 rfl) ?_
              refine g_1128 C hinX11 hW hR.1.1 (mA_28 hR.1) l91 dX11_giveBack_97 ?_
              refine lv_iload hx hb dX11_giveBack_100 (lv_at hl 6 rfl) ?_
              refine a_Iload C hW (j := k) (mK_28 hR.1) (mN_28 hR.1) rfl (by omega) (by omega) dX11_giveBack_102 ?_
              refine top_i (show aI S7 (t 28) k = (iI ((mGB g gt kk k).1) 27 k 0).1 28 k from hR.i 28 k) ?_
              refine lv_aload_n hx hb dX11_giveBack_103 rfl (lv_at hl 2 rfl) ?_
              refine g_1120 C hinX11 hW hR.1.1 (mA_20 hR.1) l67 dX11_giveBack_104 ?_
              refine lv_iload_n hx hb dX11_giveBack_107 rfl (lv_at hl 3 rfl) ?_
              refine a_Iload C hW (j := gt) (mK_20 hR.1) (mN_20 hR.1) rfl (by omega) (by omega) dX11_giveBack_108 ?_
              refine top_i (show aI S7 (t 20) gt = (iI ((mGB g gt kk k).1) 27 k 0).1 20 gt from hR.i 20 gt) ?_
              refine lv_iconst (v := (-1)) hx hb dX11_giveBack_109 (by decide) ?_
              refine lv_iload hx hb dX11_giveBack_110 (lv_at hl 6 rfl) ?_
              refine k_callVi (As := [.int 2, .int (nI gt), .int (nI kk), .int ((iI ((mGB g gt kk k).1) 27 k 0).1 28 k), .int ((iI ((mGB g gt kk k).1) 27 k 0).1 20 gt), .int (-1), .int (nI k)]) (rest := [.int x3]) C hml (c_X11_send hR hm) (cwV 7 hts gX11_giveBack_X11_send rfl rfl rfl (by decide +kernel) ⟨by decide, by decide⟩) hW hS hB (hR.1.1).1 (pAt_11 (hR.1.1).2) rfl rfl hl.1 rfl (Nat.le_of_ble_eq_true rfl) dX11_giveBack_112 ⟨Nat.le_of_ble_eq_true rfl, Nat.le_of_ble_eq_true rfl⟩ (fun r9 S8 H locs hp9 hW hS => ?_)
              obtain ⟨hO9, hR, e9⟩ := hp9
              replace hO := hO.tr hO9
              subst e9
              clear hO9
              refine lv_iadd hx hb dX11_giveBack_115 ?_
              refine lv_istore_n (lv' := [(3, .int (x3 + ((mSend (iI ((mGB g gt kk k).1) 27 k 0) 2 (nI gt) (nI kk) ((iI ((mGB g gt kk k).1) 27 k 0).1 28 k) ((iI ((mGB g gt kk k).1) 27 k 0).1 20 gt) (-1) (nI k)).2))), (6, .int 1), (5, .int (if mLive ((mGB g gt kk k).1) gt k then 1 else 0)), (0, .ref a0), (1, .int (nI gt)), (2, .int (nI kk)), (4, .int (nI k))]) hx hb dX11_giveBack_116 rfl hl (by decide) rfl (fun ls hl => ?_)
              refine lv_iinc (v := nI (k + 1)) (lv' := [(4, .int (nI (k + 1))), (3, .int (x3 + ((mSend (iI ((mGB g gt kk k).1) 27 k 0) 2 (nI gt) (nI kk) ((iI ((mGB g gt kk k).1) 27 k 0).1 28 k) ((iI ((mGB g gt kk k).1) 27 k 0).1 20 gt) (-1) (nI k)).2))), (6, .int 1), (5, .int (if mLive ((mGB g gt kk k).1) gt k then 1 else 0)), (0, .ref a0), (1, .int (nI gt)), (2, .int (nI kk))]) hx hb dX11_giveBack_117 hl (k := 6) rfl (nI_add k 1) (by decide) rfl (fun ls hl => ?_)
              refine lv_goto (tgt := 5) hx hb dX11_giveBack_120 (by decide) ?_
              exact ih (k + 1) _ _ _ _ ls (by omega) (by omega) (by rw [mGB, if_pos q_22, if_pos q_65, if_pos (Int32.not_lt.mp c_53)]; exact hR) hO (by rw [mGB, if_pos q_22, if_pos q_65, if_pos (Int32.not_lt.mp c_53), e3]; rfl) hW hS (lv_sub hl [4, 5, 6, 1, 0] rfl)
  exact lp (n - 0 + 1) 0 0 _ _ _ ls (by omega) (by omega) hR hO rfl hW hS (lv_sub hl [2, 3, 4, 1, 0] rfl)
abbrev mAt (gt kk : Nat) : Nat := 8 * gt + kk
def mW1 (q : MS) (gt k : Nat) : MS := iI (iI q 21 (8 * gt + k) (q.1 22 (8 * gt + k) + q.1 21 (8 * gt + k) / 2)) 22 (8 * gt + k) 0
def mMore (q : MS) (gt k n : Nat) : Int32 := 2 * q.1 21 (8 * gt + k) - mLiveSum q gt k n
def mOpenUp (q : MS) (gt k : Nat) : MS := iI (iI (iI q 23 (8 * gt + k) (q.1 23 (8 * gt + k) + 1)) 24 (8 * gt + k) 1) 25 (8 * gt + k) (mClk q gt)
abbrev mMayAsk (q : MS) (gt k : Nat) : Prop := q.1 24 (8 * gt + k) = 0 ∨ 500 ≤ mClk q gt - q.1 25 (8 * gt + k)
def mAskS (q : MS) (gt k : Nat) (x : Int32) : MS × Int32 := mSend (mOpenUp q gt k) 0 (nI gt) (nI k) x ((mOpenUp q gt k).1 20 gt) ((mOpenUp q gt k).1 23 (8 * gt + k)) (-1)
def mWorkE (q : MS × Int32) (sent : Int32) (gt k n : Nat) : MS × Int32 :=
  if 0 < mMore (mW1 q.1 gt k) gt k n ∧ mMayAsk (mW1 q.1 gt k) gt k then
    ((mAskS (mW1 q.1 gt k) gt k (mMore (mW1 q.1 gt k) gt k n)).1, sent + q.2 + (mAskS (mW1 q.1 gt k) gt k (mMore (mW1 q.1 gt k) gt k n)).2)
  else (mW1 q.1 gt k, sent + q.2)
def mWorkN (g : MS) (gt n : Nat) : Nat → MS × Int32
  | 0 => (g, 0)
  | k + 1 => mWorkE (mGB (mWorkN g gt n k).1 gt k n) (mWorkN g gt n k).2 gt k n
theorem mW1_n (q : MS) (gt k f : Nat) : (mW1 q gt k).2.2 f = q.2.2 f := rfl
theorem mWorkE_n (q : MS × Int32) (x : Int32) (gt k n f : Nat) (hf : f ≠ 1131) : (mWorkE q x gt k n).1.2.2 f = q.1.2.2 f := by
  unfold mWorkE
  split
  · exact mSend_n _ _ _ _ _ _ _ _ f hf
  · rfl
theorem mWorkE_ok {q : MS × Int32} (h : MsgOk q.1) (x : Int32) (gt k n : Nat) : MsgOk (mWorkE q x gt k n).1 := by
  unfold mWorkE
  split
  · exact mSend_ok (g := mOpenUp (mW1 q.1 gt k) gt k) h _ _ _ _ _ _ _
  · exact h
theorem mWorkN_n (g : MS) (gt n k f : Nat) (hf : f ≠ 1131) : (mWorkN g gt n k).1.2.2 f = g.2.2 f := by
  induction k with
  | zero => rfl
  | succ k ih => exact ((mWorkE_n _ _ _ _ _ f hf).trans (mGB_n _ _ _ _ f hf)).trans ih
theorem mWorkN_ok {g : MS} (h : MsgOk g) (gt n k : Nat) : MsgOk (mWorkN g gt n k).1 := by
  induction k with
  | zero => exact h
  | succ k ih => exact mWorkE_ok (mGB_ok ih _ _ _) _ _ _ _
def mWork (g : MS) (n : Nat) (p0 : Int32) : MS × Int32 := if 0 ≤ p0 ∧ p0 ≤ 5 then mWorkN (iF g 1100 0) p0.toNatClampNeg n 8 else (iF g 1100 1, 0)
set_option maxRecDepth 100000 in
set_option maxHeartbeats 4000000 in
theorem c_X11_work {l : Launch} {D : va_G} {cy : Nat → ClassId} {B : Nat} {s0 : State} {S : PS} {a0 : Nat} {t : Nat → Nat} {g : MS} {n : Nat} {p0 : Int32} (hR : MR S a0 t g) (hn : g.2.2 1107 = nI n) (hn3 : n ≤ 300) (hm : MsgOk g) : KI l yX11_work wsX11_work ({ frames := 4, cells := 0, slots := 0, locals := 91 }) D cy B s0 [.ref a0, .int p0] S (fun r S2 => MO S S2 a0 t ∧ MR S2 a0 t (mWork g n p0).1 ∧ r = (mWork g n p0).2) 0 0 := by
  refine k_body (own := RX11) (cc := cX11_work) (maxL := 6) (ret := (some .int)) rfl (by decide) rfl (Nat.le_of_ble_eq_true rfl) ?_
  intro p e s m below meth c C hml hr hlk hnm hB hW ls hl
  obtain ⟨hx, hb, hts, hown, hK, hEn⟩ := id C
  have hS : va_S (Aw B) s.heap s.heap [] := va_S.rf
  have hinX11 : ∀ w ∈ wsX110, w ∈ wsX11_work := by decide +kernel
  have l67 : Cond.fieldLink RX11 67 "LeaseGatesModel" "births" "[I" ∈ wsX11_work := by decide +kernel
  have l70 : Cond.fieldLink RX11 70 "LeaseGatesModel" "demand" "[I" ∈ wsX11_work := by decide +kernel
  have l73 : Cond.fieldLink RX11 73 "LeaseGatesModel" "use" "[I" ∈ wsX11_work := by decide +kernel
  have l76 : Cond.fieldLink RX11 76 "LeaseGatesModel" "counts" "[I" ∈ wsX11_work := by decide +kernel
  have l79 : Cond.fieldLink RX11 79 "LeaseGatesModel" "isOpen" "[Z" ∈ wsX11_work := by decide +kernel
  have l82 : Cond.fieldLink RX11 82 "LeaseGatesModel" "since" "[I" ∈ wsX11_work := by decide +kernel
  have hl : lv_has ls 6 [(0, .ref a0), (1, .int p0)] := hl
  have hO : MO S S a0 t := MO.rf
  refine lv_aload_n hx hb dX11_work_0 rfl (lv_at hl 0 rfl) ?_
  refine lv_iload_n hx hb dX11_work_1 rfl (lv_at hl 1 rfl) ?_
  refine lv_iconst (v := 0) hx hb dX11_work_2 (by decide) ?_
  refine lv_iconst (v := 5) hx hb dX11_work_3 (by decide) ?_
  refine k_callSi (As := [.int p0, .int 0, .int 5]) (rest := [.ref a0]) C hml (c_X11_isIn) (va_cwS 3 hts gX11_work_X11_isIn rfl rfl rfl (by decide +kernel) ⟨by decide, by decide⟩) hW hS hB rfl hl.1 rfl (Nat.le_of_ble_eq_true rfl) dX11_work_4 ⟨Nat.le_of_ble_eq_true rfl, Nat.le_of_ble_eq_true rfl⟩ (fun r9 S1 H locs hp9 hW hS => ?_)
  obtain ⟨e8, e9⟩ := hp9
  rw [e8] at hW
  subst e9
  refine lv_if_eq (tgt := 14) hx hb dX11_work_7 (by decide) (fun c_7 => ?_) (fun c_7 => ?_)
  · have q_7 : ¬ (0 ≤ p0 ∧ p0 ≤ 5) := ite0.mp c_7
    refine lv_iconst (v := 1) hx hb dX11_work_14 (by decide) ?_
    refine k_callVi (As := [.int 1]) (rest := []) C hml (c_X11_refused hR) (cwV 1 hts gX11_work_X11_refused rfl rfl rfl (by decide +kernel) ⟨by decide, by decide⟩) hW hS hB (hR.1.1).1 (pAt_11 (hR.1.1).2) rfl rfl hl.1 rfl (Nat.le_of_ble_eq_true rfl) dX11_work_15 ⟨Nat.le_of_ble_eq_true rfl, Nat.le_of_ble_eq_true rfl⟩ (fun r9 S2 H locs hp9 hW hS => ?_)
    obtain ⟨hO9, hR, e9⟩ := hp9
    replace hO := hO.tr hO9
    obtain rfl : r9 = 1 := e9.trans (by decide)
    clear hO9 e9
    refine lv_if_eq (tgt := 23) hx hb dX11_work_18 (by decide) (fun c9 => absurd c9 (by decide)) (fun c9 => ?_)
    refine lv_iconst (v := 0) hx hb dX11_work_21 (by decide) ?_
    exact k_iret C hr hlk hW hS hB ⟨hO, by rw [mWork, if_neg q_7]; exact hR, by rw [mWork, if_neg q_7]⟩ (Nat.le_refl _) (Nat.le_refl _) dX11_work_22
  · have q_7 : (0 ≤ p0 ∧ p0 ≤ 5) := ite1.mp c_7
    refine lv_iconst (v := 0) hx hb dX11_work_10 (by decide) ?_
    refine lv_goto (tgt := 15) hx hb dX11_work_11 (by decide) ?_
    refine k_callVi (As := [.int 0]) (rest := []) C hml (c_X11_refused hR) (cwV 1 hts gX11_work_X11_refused rfl rfl rfl (by decide +kernel) ⟨by decide, by decide⟩) hW hS hB (hR.1.1).1 (pAt_11 (hR.1.1).2) rfl rfl hl.1 rfl (Nat.le_of_ble_eq_true rfl) dX11_work_15 ⟨Nat.le_of_ble_eq_true rfl, Nat.le_of_ble_eq_true rfl⟩ (fun r9 S3 H locs hp9 hW hS => ?_)
    obtain ⟨hO9, hR, e9⟩ := hp9
    replace hO := hO.tr hO9
    obtain rfl : r9 = 0 := e9.trans (by decide)
    clear hO9 e9
    refine lv_if_eq (tgt := 23) hx hb dX11_work_18 (by decide) (fun c9 => ?_) (fun c9 => absurd c9 (by decide))
    obtain ⟨gt, hgt, rfl⟩ := rngN 5 (by decide) q_7
    refine lv_iconst (v := 0) hx hb dX11_work_23 (by decide) ?_
    refine lv_istore_n (lv' := [(2, .int 0), (0, .ref a0), (1, .int (nI gt))]) hx hb dX11_work_24 rfl hl (by decide) rfl (fun ls hl => ?_)
    refine lv_iconst (v := 0) hx hb dX11_work_25 (by decide) ?_
    refine lv_istore_n (lv' := [(3, .int 0), (2, .int 0), (0, .ref a0), (1, .int (nI gt))]) hx hb dX11_work_26 rfl hl (by decide) rfl (fun ls hl => ?_)
    have lp : ∀ (d k : Nat) (x2 : Int32) (Sk : PS) (H : Heap) (locs : List Loc) (ls : Array Slot), k ≤ 8 → 8 - k < d → MR Sk a0 t (mWorkN (iF g 1100 0) gt n k).1 → MO S Sk a0 t → x2 = (mWorkN (iF g 1100 0) gt n k).2 → PW D cy B Sk H → va_S (Aw B) s.heap H locs → lv_has ls 6 [(0, .ref a0), (1, .int (nI gt)), (2, .int x2), (3, .int (nI k))] → W p l e ({ frames := 4, cells := 0, slots := 0, locals := 91 }) s m [.ref a0, .int (nI gt)].toArray below meth c H locs 0 0 (MQ below (va_Qi (fun r S2 => MO S S2 a0 t ∧ MR S2 a0 t (mWork g n (nI gt)).1 ∧ r = (mWork g n (nI gt)).2) (PreW D cy B s0) (Aw B)) [.ref a0, .int (nI gt)].toArray s 0 0 (Aw B)) (F0 m 27 ls []) := by
      intro d
      induction d with
      | zero => intro k x2 Sk H locs ls _ hd; exact absurd hd (Nat.not_lt_zero _)
      | succ d ih =>
        intro k x2 Sk H locs ls hk hd hR hO e2 hW hS hl
        replace hn := (mWorkN_n (iF g 1100 0) gt n k 1107 (by decide)).trans hn
        replace hm : MsgOk (mWorkN (iF g 1100 0) gt n k).1 := mWorkN_ok (g := iF g 1100 0) hm gt n k
        refine lv_iload_n hx hb dX11_work_27 rfl (lv_at hl 3 rfl) ?_
        refine lv_bipush (v := 8) hx hb dX11_work_28 (by decide) ?_
        refine lv_icmp_ge (tgt := 197) hx hb dX11_work_30 (by decide) (fun c_30 => ?_) (fun c_30 => ?_)
        · have q_30 : 8 ≤ k := (nI_leI (a := 8) (b := k) (by omega) (by omega)).mp c_30
          refine lv_iload_n hx hb dX11_work_197 rfl (lv_at hl 2 rfl) ?_
          exact k_iret C hr hlk hW hS hB ⟨hO, by rw [show k = 8 by omega] at hR; rw [mWork, if_pos q_7, nI_clamp (by omega)]; exact hR, by rw [show k = 8 by omega] at e2; rw [mWork, if_pos q_7, nI_clamp (by omega)]; exact e2⟩ (Nat.le_refl _) (Nat.le_refl _) dX11_work_198
        · have q_30 : ¬ (8 ≤ k) := fun z => c_30 ((nI_leI (a := 8) (b := k) (by omega) (by omega)).mpr z)
          refine lv_iload_n hx hb dX11_work_33 rfl (lv_at hl 2 rfl) ?_
          refine lv_aload_n hx hb dX11_work_34 rfl (lv_at hl 0 rfl) ?_
          refine lv_iload_n hx hb dX11_work_35 rfl (lv_at hl 1 rfl) ?_
          refine lv_iload_n hx hb dX11_work_36 rfl (lv_at hl 3 rfl) ?_
          refine k_callVi (As := [.int (nI gt), .int (nI k)]) (rest := [.int x2]) C hml (c_X11_giveBack (gt := gt) (kk := k) hR hn hn3 (by omega) hm) (cwV 2 hts gX11_work_X11_giveBack rfl rfl rfl (by decide +kernel) ⟨by decide, by decide⟩) hW hS hB (hR.1.1).1 (pAt_11 (hR.1.1).2) rfl rfl hl.1 rfl (Nat.le_of_ble_eq_true rfl) dX11_work_37 ⟨Nat.le_of_ble_eq_true rfl, Nat.le_of_ble_eq_true rfl⟩ (fun r9 S4 H locs hp9 hW hS => ?_)
          obtain ⟨hO9, hR, e9⟩ := hp9
          replace hO := hO.tr hO9
          subst e9
          clear hO9
          refine lv_iadd hx hb dX11_work_40 ?_
          refine lv_istore_n (lv' := [(2, .int (x2 + ((mGB ((mWorkN (iF g 1100 0) gt n k).1) gt k n).2))), (0, .ref a0), (1, .int (nI gt)), (3, .int (nI k))]) hx hb dX11_work_41 rfl hl (by decide) rfl (fun ls hl => ?_)
          replace hn := (mGB_n (mWorkN (iF g 1100 0) gt n k).1 gt k n 1107 (by decide)).trans hn
          replace hm := mGB_ok hm gt k n
          refine lv_bipush (v := 8) hx hb dX11_work_42 (by decide) ?_
          refine lv_iload_n hx hb dX11_work_44 rfl (lv_at hl 2 rfl) ?_
          refine lv_imul hx hb dX11_work_45 ?_
          refine top_i (show 8 * (nI gt) = nI (8 * gt) from pk_mul 8 gt) ?_
          refine lv_iload_n hx hb dX11_work_46 rfl (lv_at hl 3 rfl) ?_
          refine lv_iadd hx hb dX11_work_47 ?_
          refine top_i (show (nI (8 * gt)) + (nI k) = nI ((8 * gt) + k) from nI_add (8 * gt) k) ?_
          refine lv_istore (lv' := [(4, .int (nI ((8 * gt) + k))), (2, .int (x2 + ((mGB ((mWorkN (iF g 1100 0) gt n k).1) gt k n).2))), (0, .ref a0), (1, .int (nI gt)), (3, .int (nI k))]) hx hb dX11_work_48 hl (by decide) rfl (fun ls hl => ?_)
          refine lv_aload_n hx hb dX11_work_50 rfl (lv_at hl 2 rfl) ?_
          refine g_1121 C hinX11 hW hR.1.1 (mA_21 hR.1) l70 dX11_work_51 ?_
          refine lv_iload hx hb dX11_work_54 (lv_at hl 0 rfl) ?_
          refine lv_aload_n hx hb dX11_work_56 rfl (lv_at hl 2 rfl) ?_
          refine g_1122 C hinX11 hW hR.1.1 (mA_22 hR.1) l73 dX11_work_57 ?_
          refine lv_iload hx hb dX11_work_60 (lv_at hl 0 rfl) ?_
          refine a_Iload C hW (j := ((8 * gt) + k)) (mK_22 hR.1) (mN_22 hR.1) rfl (by omega) (by omega) dX11_work_62 ?_
          refine top_i (show aI S4 (t 22) ((8 * gt) + k) = ((mGB ((mWorkN (iF g 1100 0) gt n k).1) gt k n).1).1 22 ((8 * gt) + k) from hR.i 22 ((8 * gt) + k)) ?_
          refine lv_aload_n hx hb dX11_work_63 rfl (lv_at hl 2 rfl) ?_
          refine g_1121 C hinX11 hW hR.1.1 (mA_21 hR.1) l70 dX11_work_64 ?_
          refine lv_iload hx hb dX11_work_67 (lv_at hl 0 rfl) ?_
          refine a_Iload C hW (j := ((8 * gt) + k)) (mK_21 hR.1) (mN_21 hR.1) rfl (by omega) (by omega) dX11_work_69 ?_
          refine top_i (show aI S4 (t 21) ((8 * gt) + k) = ((mGB ((mWorkN (iF g 1100 0) gt n k).1) gt k n).1).1 21 ((8 * gt) + k) from hR.i 21 ((8 * gt) + k)) ?_
          refine lv_iconst (v := 2) hx hb dX11_work_70 (by decide) ?_
          refine lv_idiv hx hb dX11_work_71 (by decide) ?_
          refine lv_iadd hx hb dX11_work_72 ?_
          refine a_Istore C hW hS (j := ((8 * gt) + k)) (mK_21 hR.1) (mN_21 hR.1) rfl (by omega) (by omega) dX11_work_73 (fun S5 H locs e1 hW hS => ?_)
          have hR : MR S5 a0 t (iI ((mGB ((mWorkN (iF g 1100 0) gt n k).1) gt k n).1) 21 ((8 * gt) + k) ((((mGB ((mWorkN (iF g 1100 0) gt n k).1) gt k n).1).1 22 ((8 * gt) + k)) + ((((mGB ((mWorkN (iF g 1100 0) gt n k).1) gt k n).1).1 21 ((8 * gt) + k)) / 2))) := by rw [e1]; exact hR.wI
          replace hO : MO S S5 a0 t := by rw [e1]; exact hO.wI
          clear e1
          refine lv_aload_n hx hb dX11_work_74 rfl (lv_at hl 2 rfl) ?_
          refine g_1122 C hinX11 hW hR.1.1 (mA_22 hR.1) l73 dX11_work_75 ?_
          refine lv_iload hx hb dX11_work_78 (lv_at hl 0 rfl) ?_
          refine lv_iconst (v := 0) hx hb dX11_work_80 (by decide) ?_
          refine a_Istore C hW hS (j := ((8 * gt) + k)) (mK_22 hR.1) (mN_22 hR.1) rfl (by omega) (by omega) dX11_work_81 (fun S6 H locs e1 hW hS => ?_)
          have hR : MR S6 a0 t (iI (iI ((mGB ((mWorkN (iF g 1100 0) gt n k).1) gt k n).1) 21 ((8 * gt) + k) ((((mGB ((mWorkN (iF g 1100 0) gt n k).1) gt k n).1).1 22 ((8 * gt) + k)) + ((((mGB ((mWorkN (iF g 1100 0) gt n k).1) gt k n).1).1 21 ((8 * gt) + k)) / 2))) 22 ((8 * gt) + k) 0) := by rw [e1]; exact hR.wI
          replace hO : MO S S6 a0 t := by rw [e1]; exact hO.wI
          clear e1
          refine lv_iconst (v := 2) hx hb dX11_work_82 (by decide) ?_
          refine lv_aload_n hx hb dX11_work_83 rfl (lv_at hl 2 rfl) ?_
          refine g_1121 C hinX11 hW hR.1.1 (mA_21 hR.1) l70 dX11_work_84 ?_
          refine lv_iload hx hb dX11_work_87 (lv_at hl 0 rfl) ?_
          refine a_Iload C hW (j := ((8 * gt) + k)) (mK_21 hR.1) (mN_21 hR.1) rfl (by omega) (by omega) dX11_work_89 ?_
          refine top_i (show aI S6 (t 21) ((8 * gt) + k) = (iI (iI ((mGB ((mWorkN (iF g 1100 0) gt n k).1) gt k n).1) 21 ((8 * gt) + k) ((((mGB ((mWorkN (iF g 1100 0) gt n k).1) gt k n).1).1 22 ((8 * gt) + k)) + ((((mGB ((mWorkN (iF g 1100 0) gt n k).1) gt k n).1).1 21 ((8 * gt) + k)) / 2))) 22 ((8 * gt) + k) 0).1 21 ((8 * gt) + k) from hR.i 21 ((8 * gt) + k)) ?_
          refine lv_imul hx hb dX11_work_90 ?_
          refine lv_aload_n hx hb dX11_work_91 rfl (lv_at hl 2 rfl) ?_
          refine lv_iload_n hx hb dX11_work_92 rfl (lv_at hl 3 rfl) ?_
          refine lv_iload_n hx hb dX11_work_93 rfl (lv_at hl 4 rfl) ?_
          refine k_callVi (As := [.int (nI gt), .int (nI k)]) (rest := [.int (2 * ((iI (iI ((mGB ((mWorkN (iF g 1100 0) gt n k).1) gt k n).1) 21 ((8 * gt) + k) ((((mGB ((mWorkN (iF g 1100 0) gt n k).1) gt k n).1).1 22 ((8 * gt) + k)) + ((((mGB ((mWorkN (iF g 1100 0) gt n k).1) gt k n).1).1 21 ((8 * gt) + k)) / 2))) 22 ((8 * gt) + k) 0).1 21 ((8 * gt) + k)))]) C hml (c_X11_live (gt := gt) (kk := k) hR hn hn3 (by omega)) (cwV 2 hts gX11_work_X11_live rfl rfl rfl (by decide +kernel) ⟨by decide, by decide⟩) hW hS hB (hR.1.1).1 (pAt_11 (hR.1.1).2) rfl rfl hl.1 rfl (Nat.le_of_ble_eq_true rfl) dX11_work_94 ⟨Nat.le_of_ble_eq_true rfl, Nat.le_of_ble_eq_true rfl⟩ (fun r9 S7 H locs hp9 hW hS => ?_)
          obtain ⟨e8, e9⟩ := hp9
          rw [e8] at hW
          subst e9
          refine lv_isub hx hb dX11_work_97 ?_
          refine lv_istore (lv' := [(5, .int ((2 * ((iI (iI ((mGB ((mWorkN (iF g 1100 0) gt n k).1) gt k n).1) 21 ((8 * gt) + k) ((((mGB ((mWorkN (iF g 1100 0) gt n k).1) gt k n).1).1 22 ((8 * gt) + k)) + ((((mGB ((mWorkN (iF g 1100 0) gt n k).1) gt k n).1).1 21 ((8 * gt) + k)) / 2))) 22 ((8 * gt) + k) 0).1 21 ((8 * gt) + k))) - (mLiveSum (iI (iI ((mGB ((mWorkN (iF g 1100 0) gt n k).1) gt k n).1) 21 ((8 * gt) + k) ((((mGB ((mWorkN (iF g 1100 0) gt n k).1) gt k n).1).1 22 ((8 * gt) + k)) + ((((mGB ((mWorkN (iF g 1100 0) gt n k).1) gt k n).1).1 21 ((8 * gt) + k)) / 2))) 22 ((8 * gt) + k) 0) gt k n))), (4, .int (nI ((8 * gt) + k))), (2, .int (x2 + ((mGB ((mWorkN (iF g 1100 0) gt n k).1) gt k n).2))), (0, .ref a0), (1, .int (nI gt)), (3, .int (nI k))]) hx hb dX11_work_98 hl (by decide) rfl (fun ls hl => ?_)
          refine lv_iload hx hb dX11_work_100 (lv_at hl 0 rfl) ?_
          refine lv_if_le (tgt := 191) hx hb dX11_work_102 (by decide) (fun c_102 => ?_) (fun c_102 => ?_)
          · refine lv_iinc (v := nI (k + 1)) (lv' := [(3, .int (nI (k + 1))), (5, .int ((2 * ((iI (iI ((mGB ((mWorkN (iF g 1100 0) gt n k).1) gt k n).1) 21 ((8 * gt) + k) ((((mGB ((mWorkN (iF g 1100 0) gt n k).1) gt k n).1).1 22 ((8 * gt) + k)) + ((((mGB ((mWorkN (iF g 1100 0) gt n k).1) gt k n).1).1 21 ((8 * gt) + k)) / 2))) 22 ((8 * gt) + k) 0).1 21 ((8 * gt) + k))) - (mLiveSum (iI (iI ((mGB ((mWorkN (iF g 1100 0) gt n k).1) gt k n).1) 21 ((8 * gt) + k) ((((mGB ((mWorkN (iF g 1100 0) gt n k).1) gt k n).1).1 22 ((8 * gt) + k)) + ((((mGB ((mWorkN (iF g 1100 0) gt n k).1) gt k n).1).1 21 ((8 * gt) + k)) / 2))) 22 ((8 * gt) + k) 0) gt k n))), (4, .int (nI ((8 * gt) + k))), (2, .int (x2 + ((mGB ((mWorkN (iF g 1100 0) gt n k).1) gt k n).2))), (0, .ref a0), (1, .int (nI gt))]) hx hb dX11_work_191 hl (k := 5) rfl (nI_add k 1) (by decide) rfl (fun ls hl => ?_)
            refine lv_goto (tgt := 27) hx hb dX11_work_194 (by decide) ?_
            exact ih (k + 1) _ _ _ _ ls (by omega) (by omega) (by rw [show mWorkN (iF g 1100 0) gt n (k + 1) = mWorkE (mGB (mWorkN (iF g 1100 0) gt n k).1 gt k n) (mWorkN (iF g 1100 0) gt n k).2 gt k n from rfl, mWorkE, if_neg (fun z => absurd z.1 (Int32.not_lt.mpr c_102))]; exact hR) hO (by rw [show mWorkN (iF g 1100 0) gt n (k + 1) = mWorkE (mGB (mWorkN (iF g 1100 0) gt n k).1 gt k n) (mWorkN (iF g 1100 0) gt n k).2 gt k n from rfl, mWorkE, if_neg (fun z => absurd z.1 (Int32.not_lt.mpr c_102)), e2]; try rfl) hW hS (lv_sub hl [4, 5, 3, 0] rfl)
          · refine lv_aload_n hx hb dX11_work_105 rfl (lv_at hl 3 rfl) ?_
            refine g_1124 C hinX11 hW hR.1.1 (mA_24 hR.1) l79 dX11_work_106 ?_
            refine lv_iload hx hb dX11_work_109 (lv_at hl 1 rfl) ?_
            refine a_Zload C hW (j := ((8 * gt) + k)) (mK_24 hR.1) (mN_24 hR.1) rfl (by omega) (by omega) dX11_work_111 ?_
            refine top_i (show aI S6 (t 24) ((8 * gt) + k) = (iI (iI ((mGB ((mWorkN (iF g 1100 0) gt n k).1) gt k n).1) 21 ((8 * gt) + k) ((((mGB ((mWorkN (iF g 1100 0) gt n k).1) gt k n).1).1 22 ((8 * gt) + k)) + ((((mGB ((mWorkN (iF g 1100 0) gt n k).1) gt k n).1).1 21 ((8 * gt) + k)) / 2))) 22 ((8 * gt) + k) 0).1 24 ((8 * gt) + k) from hR.i 24 ((8 * gt) + k)) ?_
            refine lv_if_eq (tgt := 134) hx hb dX11_work_112 (by decide) (fun c_112 => ?_) (fun c_112 => ?_)
            · refine lv_aload_n hx hb dX11_work_134 rfl (lv_at hl 3 rfl) ?_
              refine g_1123 C hinX11 hW hR.1.1 (mA_23 hR.1) l76 dX11_work_135 ?_
              refine lv_iload hx hb dX11_work_138 (lv_at hl 1 rfl) ?_
              refine lv_dup2_11 hx hb dX11_work_140 rfl rfl ?_
              refine a_Iload C hW (j := ((8 * gt) + k)) (mK_23 hR.1) (mN_23 hR.1) rfl (by omega) (by omega) dX11_work_141 ?_
              refine top_i (show aI S6 (t 23) ((8 * gt) + k) = (iI (iI ((mGB ((mWorkN (iF g 1100 0) gt n k).1) gt k n).1) 21 ((8 * gt) + k) ((((mGB ((mWorkN (iF g 1100 0) gt n k).1) gt k n).1).1 22 ((8 * gt) + k)) + ((((mGB ((mWorkN (iF g 1100 0) gt n k).1) gt k n).1).1 21 ((8 * gt) + k)) / 2))) 22 ((8 * gt) + k) 0).1 23 ((8 * gt) + k) from hR.i 23 ((8 * gt) + k)) ?_
              refine lv_iconst (v := 1) hx hb dX11_work_142 (by decide) ?_
              refine lv_iadd hx hb dX11_work_143 ?_
              refine a_Istore C hW hS (j := ((8 * gt) + k)) (mK_23 hR.1) (mN_23 hR.1) rfl (by omega) (by omega) dX11_work_144 (fun S8 H locs e1 hW hS => ?_)
              have hR : MR S8 a0 t (iI (iI (iI ((mGB ((mWorkN (iF g 1100 0) gt n k).1) gt k n).1) 21 ((8 * gt) + k) ((((mGB ((mWorkN (iF g 1100 0) gt n k).1) gt k n).1).1 22 ((8 * gt) + k)) + ((((mGB ((mWorkN (iF g 1100 0) gt n k).1) gt k n).1).1 21 ((8 * gt) + k)) / 2))) 22 ((8 * gt) + k) 0) 23 ((8 * gt) + k) (((iI (iI ((mGB ((mWorkN (iF g 1100 0) gt n k).1) gt k n).1) 21 ((8 * gt) + k) ((((mGB ((mWorkN (iF g 1100 0) gt n k).1) gt k n).1).1 22 ((8 * gt) + k)) + ((((mGB ((mWorkN (iF g 1100 0) gt n k).1) gt k n).1).1 21 ((8 * gt) + k)) / 2))) 22 ((8 * gt) + k) 0).1 23 ((8 * gt) + k)) + 1)) := by rw [e1]; exact hR.wI
              replace hO : MO S S8 a0 t := by rw [e1]; exact hO.wI
              clear e1
              refine lv_aload_n hx hb dX11_work_145 rfl (lv_at hl 3 rfl) ?_
              refine g_1124 C hinX11 hW hR.1.1 (mA_24 hR.1) l79 dX11_work_146 ?_
              refine lv_iload hx hb dX11_work_149 (lv_at hl 1 rfl) ?_
              refine lv_iconst (v := 1) hx hb dX11_work_151 (by decide) ?_
              refine a_Zstore C hW hS (j := ((8 * gt) + k)) (mK_24 hR.1) (mN_24 hR.1) rfl (by omega) (by omega) (by decide) dX11_work_152 (fun S9 H locs e1 hW hS => ?_)
              have hR : MR S9 a0 t (iI (iI (iI (iI ((mGB ((mWorkN (iF g 1100 0) gt n k).1) gt k n).1) 21 ((8 * gt) + k) ((((mGB ((mWorkN (iF g 1100 0) gt n k).1) gt k n).1).1 22 ((8 * gt) + k)) + ((((mGB ((mWorkN (iF g 1100 0) gt n k).1) gt k n).1).1 21 ((8 * gt) + k)) / 2))) 22 ((8 * gt) + k) 0) 23 ((8 * gt) + k) (((iI (iI ((mGB ((mWorkN (iF g 1100 0) gt n k).1) gt k n).1) 21 ((8 * gt) + k) ((((mGB ((mWorkN (iF g 1100 0) gt n k).1) gt k n).1).1 22 ((8 * gt) + k)) + ((((mGB ((mWorkN (iF g 1100 0) gt n k).1) gt k n).1).1 21 ((8 * gt) + k)) / 2))) 22 ((8 * gt) + k) 0).1 23 ((8 * gt) + k)) + 1)) 24 ((8 * gt) + k) 1) := by rw [e1]; exact hR.wI
              replace hO : MO S S9 a0 t := by rw [e1]; exact hO.wI
              clear e1
              refine lv_aload_n hx hb dX11_work_153 rfl (lv_at hl 3 rfl) ?_
              refine g_1125 C hinX11 hW hR.1.1 (mA_25 hR.1) l82 dX11_work_154 ?_
              refine lv_iload hx hb dX11_work_157 (lv_at hl 1 rfl) ?_
              refine lv_aload_n hx hb dX11_work_159 rfl (lv_at hl 3 rfl) ?_
              refine lv_iload_n hx hb dX11_work_160 rfl (lv_at hl 4 rfl) ?_
              refine k_callVi (As := [.int (nI gt)]) (rest := [.int (nI ((8 * gt) + k)), .ref (t 25)]) C hml (c_X11_clockOf (k := gt) hR (by omega)) (cwV 1 hts gX11_work_X11_clockOf rfl rfl rfl (by decide +kernel) ⟨by decide, by decide⟩) hW hS hB (hR.1.1).1 (pAt_11 (hR.1.1).2) rfl rfl hl.1 rfl (Nat.le_of_ble_eq_true rfl) dX11_work_161 ⟨Nat.le_of_ble_eq_true rfl, Nat.le_of_ble_eq_true rfl⟩ (fun r9 S10 H locs hp9 hW hS => ?_)
              obtain ⟨e8, e9⟩ := hp9
              rw [e8] at hW
              subst e9
              refine a_Istore C hW hS (j := ((8 * gt) + k)) (mK_25 hR.1) (mN_25 hR.1) rfl (by omega) (by omega) dX11_work_164 (fun S11 H locs e1 hW hS => ?_)
              have hR : MR S11 a0 t (iI (iI (iI (iI (iI ((mGB ((mWorkN (iF g 1100 0) gt n k).1) gt k n).1) 21 ((8 * gt) + k) ((((mGB ((mWorkN (iF g 1100 0) gt n k).1) gt k n).1).1 22 ((8 * gt) + k)) + ((((mGB ((mWorkN (iF g 1100 0) gt n k).1) gt k n).1).1 21 ((8 * gt) + k)) / 2))) 22 ((8 * gt) + k) 0) 23 ((8 * gt) + k) (((iI (iI ((mGB ((mWorkN (iF g 1100 0) gt n k).1) gt k n).1) 21 ((8 * gt) + k) ((((mGB ((mWorkN (iF g 1100 0) gt n k).1) gt k n).1).1 22 ((8 * gt) + k)) + ((((mGB ((mWorkN (iF g 1100 0) gt n k).1) gt k n).1).1 21 ((8 * gt) + k)) / 2))) 22 ((8 * gt) + k) 0).1 23 ((8 * gt) + k)) + 1)) 24 ((8 * gt) + k) 1) 25 ((8 * gt) + k) (mClk (iI (iI (iI (iI ((mGB ((mWorkN (iF g 1100 0) gt n k).1) gt k n).1) 21 ((8 * gt) + k) ((((mGB ((mWorkN (iF g 1100 0) gt n k).1) gt k n).1).1 22 ((8 * gt) + k)) + ((((mGB ((mWorkN (iF g 1100 0) gt n k).1) gt k n).1).1 21 ((8 * gt) + k)) / 2))) 22 ((8 * gt) + k) 0) 23 ((8 * gt) + k) (((iI (iI ((mGB ((mWorkN (iF g 1100 0) gt n k).1) gt k n).1) 21 ((8 * gt) + k) ((((mGB ((mWorkN (iF g 1100 0) gt n k).1) gt k n).1).1 22 ((8 * gt) + k)) + ((((mGB ((mWorkN (iF g 1100 0) gt n k).1) gt k n).1).1 21 ((8 * gt) + k)) / 2))) 22 ((8 * gt) + k) 0).1 23 ((8 * gt) + k)) + 1)) 24 ((8 * gt) + k) 1) gt)) := by rw [e1]; exact hR.wI
              replace hO : MO S S11 a0 t := by rw [e1]; exact hO.wI
              clear e1
              refine lv_iload_n hx hb dX11_work_165 rfl (lv_at hl 2 rfl) ?_
              refine lv_aload_n hx hb dX11_work_166 rfl (lv_at hl 3 rfl) ?_
              refine lv_iconst (v := 0) hx hb dX11_work_167 (by decide) ?_
              refine lv_iload_n hx hb dX11_work_168 rfl (lv_at hl 4 rfl) ?_
              refine lv_iload_n hx hb dX11_work_169 rfl (lv_at hl 5 rfl) ?_
              refine lv_iload hx hb dX11_work_170 (lv_at hl 0 rfl) ?_
              refine lv_aload_n hx hb dX11_work_172 rfl (lv_at hl 3 rfl) ?_
              refine g_1120 C hinX11 hW hR.1.1 (mA_20 hR.1) l67 dX11_work_173 ?_
              refine lv_iload_n hx hb dX11_work_176 rfl (lv_at hl 4 rfl) ?_
              refine a_Iload C hW (j := gt) (mK_20 hR.1) (mN_20 hR.1) rfl (by omega) (by omega) dX11_work_177 ?_
              refine top_i (show aI S11 (t 20) gt = (iI (iI (iI (iI (iI ((mGB ((mWorkN (iF g 1100 0) gt n k).1) gt k n).1) 21 ((8 * gt) + k) ((((mGB ((mWorkN (iF g 1100 0) gt n k).1) gt k n).1).1 22 ((8 * gt) + k)) + ((((mGB ((mWorkN (iF g 1100 0) gt n k).1) gt k n).1).1 21 ((8 * gt) + k)) / 2))) 22 ((8 * gt) + k) 0) 23 ((8 * gt) + k) (((iI (iI ((mGB ((mWorkN (iF g 1100 0) gt n k).1) gt k n).1) 21 ((8 * gt) + k) ((((mGB ((mWorkN (iF g 1100 0) gt n k).1) gt k n).1).1 22 ((8 * gt) + k)) + ((((mGB ((mWorkN (iF g 1100 0) gt n k).1) gt k n).1).1 21 ((8 * gt) + k)) / 2))) 22 ((8 * gt) + k) 0).1 23 ((8 * gt) + k)) + 1)) 24 ((8 * gt) + k) 1) 25 ((8 * gt) + k) (mClk (iI (iI (iI (iI ((mGB ((mWorkN (iF g 1100 0) gt n k).1) gt k n).1) 21 ((8 * gt) + k) ((((mGB ((mWorkN (iF g 1100 0) gt n k).1) gt k n).1).1 22 ((8 * gt) + k)) + ((((mGB ((mWorkN (iF g 1100 0) gt n k).1) gt k n).1).1 21 ((8 * gt) + k)) / 2))) 22 ((8 * gt) + k) 0) 23 ((8 * gt) + k) (((iI (iI ((mGB ((mWorkN (iF g 1100 0) gt n k).1) gt k n).1) 21 ((8 * gt) + k) ((((mGB ((mWorkN (iF g 1100 0) gt n k).1) gt k n).1).1 22 ((8 * gt) + k)) + ((((mGB ((mWorkN (iF g 1100 0) gt n k).1) gt k n).1).1 21 ((8 * gt) + k)) / 2))) 22 ((8 * gt) + k) 0).1 23 ((8 * gt) + k)) + 1)) 24 ((8 * gt) + k) 1) gt)).1 20 gt from hR.i 20 gt) ?_
              refine lv_aload_n hx hb dX11_work_178 rfl (lv_at hl 3 rfl) ?_
              refine g_1123 C hinX11 hW hR.1.1 (mA_23 hR.1) l76 dX11_work_179 ?_
              refine lv_iload hx hb dX11_work_182 (lv_at hl 1 rfl) ?_
              refine a_Iload C hW (j := ((8 * gt) + k)) (mK_23 hR.1) (mN_23 hR.1) rfl (by omega) (by omega) dX11_work_184 ?_
              refine top_i (show aI S11 (t 23) ((8 * gt) + k) = (iI (iI (iI (iI (iI ((mGB ((mWorkN (iF g 1100 0) gt n k).1) gt k n).1) 21 ((8 * gt) + k) ((((mGB ((mWorkN (iF g 1100 0) gt n k).1) gt k n).1).1 22 ((8 * gt) + k)) + ((((mGB ((mWorkN (iF g 1100 0) gt n k).1) gt k n).1).1 21 ((8 * gt) + k)) / 2))) 22 ((8 * gt) + k) 0) 23 ((8 * gt) + k) (((iI (iI ((mGB ((mWorkN (iF g 1100 0) gt n k).1) gt k n).1) 21 ((8 * gt) + k) ((((mGB ((mWorkN (iF g 1100 0) gt n k).1) gt k n).1).1 22 ((8 * gt) + k)) + ((((mGB ((mWorkN (iF g 1100 0) gt n k).1) gt k n).1).1 21 ((8 * gt) + k)) / 2))) 22 ((8 * gt) + k) 0).1 23 ((8 * gt) + k)) + 1)) 24 ((8 * gt) + k) 1) 25 ((8 * gt) + k) (mClk (iI (iI (iI (iI ((mGB ((mWorkN (iF g 1100 0) gt n k).1) gt k n).1) 21 ((8 * gt) + k) ((((mGB ((mWorkN (iF g 1100 0) gt n k).1) gt k n).1).1 22 ((8 * gt) + k)) + ((((mGB ((mWorkN (iF g 1100 0) gt n k).1) gt k n).1).1 21 ((8 * gt) + k)) / 2))) 22 ((8 * gt) + k) 0) 23 ((8 * gt) + k) (((iI (iI ((mGB ((mWorkN (iF g 1100 0) gt n k).1) gt k n).1) 21 ((8 * gt) + k) ((((mGB ((mWorkN (iF g 1100 0) gt n k).1) gt k n).1).1 22 ((8 * gt) + k)) + ((((mGB ((mWorkN (iF g 1100 0) gt n k).1) gt k n).1).1 21 ((8 * gt) + k)) / 2))) 22 ((8 * gt) + k) 0).1 23 ((8 * gt) + k)) + 1)) 24 ((8 * gt) + k) 1) gt)).1 23 ((8 * gt) + k) from hR.i 23 ((8 * gt) + k)) ?_
              refine lv_iconst (v := (-1)) hx hb dX11_work_185 (by decide) ?_
              refine k_callVi (As := [.int 0, .int (nI gt), .int (nI k), .int ((2 * ((iI (iI ((mGB ((mWorkN (iF g 1100 0) gt n k).1) gt k n).1) 21 ((8 * gt) + k) ((((mGB ((mWorkN (iF g 1100 0) gt n k).1) gt k n).1).1 22 ((8 * gt) + k)) + ((((mGB ((mWorkN (iF g 1100 0) gt n k).1) gt k n).1).1 21 ((8 * gt) + k)) / 2))) 22 ((8 * gt) + k) 0).1 21 ((8 * gt) + k))) - (mLiveSum (iI (iI ((mGB ((mWorkN (iF g 1100 0) gt n k).1) gt k n).1) 21 ((8 * gt) + k) ((((mGB ((mWorkN (iF g 1100 0) gt n k).1) gt k n).1).1 22 ((8 * gt) + k)) + ((((mGB ((mWorkN (iF g 1100 0) gt n k).1) gt k n).1).1 21 ((8 * gt) + k)) / 2))) 22 ((8 * gt) + k) 0) gt k n)), .int ((iI (iI (iI (iI (iI ((mGB ((mWorkN (iF g 1100 0) gt n k).1) gt k n).1) 21 ((8 * gt) + k) ((((mGB ((mWorkN (iF g 1100 0) gt n k).1) gt k n).1).1 22 ((8 * gt) + k)) + ((((mGB ((mWorkN (iF g 1100 0) gt n k).1) gt k n).1).1 21 ((8 * gt) + k)) / 2))) 22 ((8 * gt) + k) 0) 23 ((8 * gt) + k) (((iI (iI ((mGB ((mWorkN (iF g 1100 0) gt n k).1) gt k n).1) 21 ((8 * gt) + k) ((((mGB ((mWorkN (iF g 1100 0) gt n k).1) gt k n).1).1 22 ((8 * gt) + k)) + ((((mGB ((mWorkN (iF g 1100 0) gt n k).1) gt k n).1).1 21 ((8 * gt) + k)) / 2))) 22 ((8 * gt) + k) 0).1 23 ((8 * gt) + k)) + 1)) 24 ((8 * gt) + k) 1) 25 ((8 * gt) + k) (mClk (iI (iI (iI (iI ((mGB ((mWorkN (iF g 1100 0) gt n k).1) gt k n).1) 21 ((8 * gt) + k) ((((mGB ((mWorkN (iF g 1100 0) gt n k).1) gt k n).1).1 22 ((8 * gt) + k)) + ((((mGB ((mWorkN (iF g 1100 0) gt n k).1) gt k n).1).1 21 ((8 * gt) + k)) / 2))) 22 ((8 * gt) + k) 0) 23 ((8 * gt) + k) (((iI (iI ((mGB ((mWorkN (iF g 1100 0) gt n k).1) gt k n).1) 21 ((8 * gt) + k) ((((mGB ((mWorkN (iF g 1100 0) gt n k).1) gt k n).1).1 22 ((8 * gt) + k)) + ((((mGB ((mWorkN (iF g 1100 0) gt n k).1) gt k n).1).1 21 ((8 * gt) + k)) / 2))) 22 ((8 * gt) + k) 0).1 23 ((8 * gt) + k)) + 1)) 24 ((8 * gt) + k) 1) gt)).1 20 gt), .int ((iI (iI (iI (iI (iI ((mGB ((mWorkN (iF g 1100 0) gt n k).1) gt k n).1) 21 ((8 * gt) + k) ((((mGB ((mWorkN (iF g 1100 0) gt n k).1) gt k n).1).1 22 ((8 * gt) + k)) + ((((mGB ((mWorkN (iF g 1100 0) gt n k).1) gt k n).1).1 21 ((8 * gt) + k)) / 2))) 22 ((8 * gt) + k) 0) 23 ((8 * gt) + k) (((iI (iI ((mGB ((mWorkN (iF g 1100 0) gt n k).1) gt k n).1) 21 ((8 * gt) + k) ((((mGB ((mWorkN (iF g 1100 0) gt n k).1) gt k n).1).1 22 ((8 * gt) + k)) + ((((mGB ((mWorkN (iF g 1100 0) gt n k).1) gt k n).1).1 21 ((8 * gt) + k)) / 2))) 22 ((8 * gt) + k) 0).1 23 ((8 * gt) + k)) + 1)) 24 ((8 * gt) + k) 1) 25 ((8 * gt) + k) (mClk (iI (iI (iI (iI ((mGB ((mWorkN (iF g 1100 0) gt n k).1) gt k n).1) 21 ((8 * gt) + k) ((((mGB ((mWorkN (iF g 1100 0) gt n k).1) gt k n).1).1 22 ((8 * gt) + k)) + ((((mGB ((mWorkN (iF g 1100 0) gt n k).1) gt k n).1).1 21 ((8 * gt) + k)) / 2))) 22 ((8 * gt) + k) 0) 23 ((8 * gt) + k) (((iI (iI ((mGB ((mWorkN (iF g 1100 0) gt n k).1) gt k n).1) 21 ((8 * gt) + k) ((((mGB ((mWorkN (iF g 1100 0) gt n k).1) gt k n).1).1 22 ((8 * gt) + k)) + ((((mGB ((mWorkN (iF g 1100 0) gt n k).1) gt k n).1).1 21 ((8 * gt) + k)) / 2))) 22 ((8 * gt) + k) 0).1 23 ((8 * gt) + k)) + 1)) 24 ((8 * gt) + k) 1) gt)).1 23 ((8 * gt) + k)), .int (-1)]) (rest := [.int (x2 + ((mGB ((mWorkN (iF g 1100 0) gt n k).1) gt k n).2))]) C hml (c_X11_send hR hm) (cwV 7 hts gX11_work_X11_send rfl rfl rfl (by decide +kernel) ⟨by decide, by decide⟩) hW hS hB (hR.1.1).1 (pAt_11 (hR.1.1).2) rfl rfl hl.1 rfl (Nat.le_of_ble_eq_true rfl) dX11_work_186 ⟨Nat.le_of_ble_eq_true rfl, Nat.le_of_ble_eq_true rfl⟩ (fun r9 S12 H locs hp9 hW hS => ?_)
              obtain ⟨hO9, hR, e9⟩ := hp9
              replace hO := hO.tr hO9
              subst e9
              clear hO9
              refine lv_iadd hx hb dX11_work_189 ?_
              refine lv_istore_n (lv' := [(2, .int ((x2 + ((mGB ((mWorkN (iF g 1100 0) gt n k).1) gt k n).2)) + ((mSend (iI (iI (iI (iI (iI ((mGB ((mWorkN (iF g 1100 0) gt n k).1) gt k n).1) 21 ((8 * gt) + k) ((((mGB ((mWorkN (iF g 1100 0) gt n k).1) gt k n).1).1 22 ((8 * gt) + k)) + ((((mGB ((mWorkN (iF g 1100 0) gt n k).1) gt k n).1).1 21 ((8 * gt) + k)) / 2))) 22 ((8 * gt) + k) 0) 23 ((8 * gt) + k) (((iI (iI ((mGB ((mWorkN (iF g 1100 0) gt n k).1) gt k n).1) 21 ((8 * gt) + k) ((((mGB ((mWorkN (iF g 1100 0) gt n k).1) gt k n).1).1 22 ((8 * gt) + k)) + ((((mGB ((mWorkN (iF g 1100 0) gt n k).1) gt k n).1).1 21 ((8 * gt) + k)) / 2))) 22 ((8 * gt) + k) 0).1 23 ((8 * gt) + k)) + 1)) 24 ((8 * gt) + k) 1) 25 ((8 * gt) + k) (mClk (iI (iI (iI (iI ((mGB ((mWorkN (iF g 1100 0) gt n k).1) gt k n).1) 21 ((8 * gt) + k) ((((mGB ((mWorkN (iF g 1100 0) gt n k).1) gt k n).1).1 22 ((8 * gt) + k)) + ((((mGB ((mWorkN (iF g 1100 0) gt n k).1) gt k n).1).1 21 ((8 * gt) + k)) / 2))) 22 ((8 * gt) + k) 0) 23 ((8 * gt) + k) (((iI (iI ((mGB ((mWorkN (iF g 1100 0) gt n k).1) gt k n).1) 21 ((8 * gt) + k) ((((mGB ((mWorkN (iF g 1100 0) gt n k).1) gt k n).1).1 22 ((8 * gt) + k)) + ((((mGB ((mWorkN (iF g 1100 0) gt n k).1) gt k n).1).1 21 ((8 * gt) + k)) / 2))) 22 ((8 * gt) + k) 0).1 23 ((8 * gt) + k)) + 1)) 24 ((8 * gt) + k) 1) gt)) 0 (nI gt) (nI k) ((2 * ((iI (iI ((mGB ((mWorkN (iF g 1100 0) gt n k).1) gt k n).1) 21 ((8 * gt) + k) ((((mGB ((mWorkN (iF g 1100 0) gt n k).1) gt k n).1).1 22 ((8 * gt) + k)) + ((((mGB ((mWorkN (iF g 1100 0) gt n k).1) gt k n).1).1 21 ((8 * gt) + k)) / 2))) 22 ((8 * gt) + k) 0).1 21 ((8 * gt) + k))) - (mLiveSum (iI (iI ((mGB ((mWorkN (iF g 1100 0) gt n k).1) gt k n).1) 21 ((8 * gt) + k) ((((mGB ((mWorkN (iF g 1100 0) gt n k).1) gt k n).1).1 22 ((8 * gt) + k)) + ((((mGB ((mWorkN (iF g 1100 0) gt n k).1) gt k n).1).1 21 ((8 * gt) + k)) / 2))) 22 ((8 * gt) + k) 0) gt k n)) ((iI (iI (iI (iI (iI ((mGB ((mWorkN (iF g 1100 0) gt n k).1) gt k n).1) 21 ((8 * gt) + k) ((((mGB ((mWorkN (iF g 1100 0) gt n k).1) gt k n).1).1 22 ((8 * gt) + k)) + ((((mGB ((mWorkN (iF g 1100 0) gt n k).1) gt k n).1).1 21 ((8 * gt) + k)) / 2))) 22 ((8 * gt) + k) 0) 23 ((8 * gt) + k) (((iI (iI ((mGB ((mWorkN (iF g 1100 0) gt n k).1) gt k n).1) 21 ((8 * gt) + k) ((((mGB ((mWorkN (iF g 1100 0) gt n k).1) gt k n).1).1 22 ((8 * gt) + k)) + ((((mGB ((mWorkN (iF g 1100 0) gt n k).1) gt k n).1).1 21 ((8 * gt) + k)) / 2))) 22 ((8 * gt) + k) 0).1 23 ((8 * gt) + k)) + 1)) 24 ((8 * gt) + k) 1) 25 ((8 * gt) + k) (mClk (iI (iI (iI (iI ((mGB ((mWorkN (iF g 1100 0) gt n k).1) gt k n).1) 21 ((8 * gt) + k) ((((mGB ((mWorkN (iF g 1100 0) gt n k).1) gt k n).1).1 22 ((8 * gt) + k)) + ((((mGB ((mWorkN (iF g 1100 0) gt n k).1) gt k n).1).1 21 ((8 * gt) + k)) / 2))) 22 ((8 * gt) + k) 0) 23 ((8 * gt) + k) (((iI (iI ((mGB ((mWorkN (iF g 1100 0) gt n k).1) gt k n).1) 21 ((8 * gt) + k) ((((mGB ((mWorkN (iF g 1100 0) gt n k).1) gt k n).1).1 22 ((8 * gt) + k)) + ((((mGB ((mWorkN (iF g 1100 0) gt n k).1) gt k n).1).1 21 ((8 * gt) + k)) / 2))) 22 ((8 * gt) + k) 0).1 23 ((8 * gt) + k)) + 1)) 24 ((8 * gt) + k) 1) gt)).1 20 gt) ((iI (iI (iI (iI (iI ((mGB ((mWorkN (iF g 1100 0) gt n k).1) gt k n).1) 21 ((8 * gt) + k) ((((mGB ((mWorkN (iF g 1100 0) gt n k).1) gt k n).1).1 22 ((8 * gt) + k)) + ((((mGB ((mWorkN (iF g 1100 0) gt n k).1) gt k n).1).1 21 ((8 * gt) + k)) / 2))) 22 ((8 * gt) + k) 0) 23 ((8 * gt) + k) (((iI (iI ((mGB ((mWorkN (iF g 1100 0) gt n k).1) gt k n).1) 21 ((8 * gt) + k) ((((mGB ((mWorkN (iF g 1100 0) gt n k).1) gt k n).1).1 22 ((8 * gt) + k)) + ((((mGB ((mWorkN (iF g 1100 0) gt n k).1) gt k n).1).1 21 ((8 * gt) + k)) / 2))) 22 ((8 * gt) + k) 0).1 23 ((8 * gt) + k)) + 1)) 24 ((8 * gt) + k) 1) 25 ((8 * gt) + k) (mClk (iI (iI (iI (iI ((mGB ((mWorkN (iF g 1100 0) gt n k).1) gt k n).1) 21 ((8 * gt) + k) ((((mGB ((mWorkN (iF g 1100 0) gt n k).1) gt k n).1).1 22 ((8 * gt) + k)) + ((((mGB ((mWorkN (iF g 1100 0) gt n k).1) gt k n).1).1 21 ((8 * gt) + k)) / 2))) 22 ((8 * gt) + k) 0) 23 ((8 * gt) + k) (((iI (iI ((mGB ((mWorkN (iF g 1100 0) gt n k).1) gt k n).1) 21 ((8 * gt) + k) ((((mGB ((mWorkN (iF g 1100 0) gt n k).1) gt k n).1).1 22 ((8 * gt) + k)) + ((((mGB ((mWorkN (iF g 1100 0) gt n k).1) gt k n).1).1 21 ((8 * gt) + k)) / 2))) 22 ((8 * gt) + k) 0).1 23 ((8 * gt) + k)) + 1)) 24 ((8 * gt) + k) 1) gt)).1 23 ((8 * gt) + k)) (-1)).2))), (5, .int ((2 * ((iI (iI ((mGB ((mWorkN (iF g 1100 0) gt n k).1) gt k n).1) 21 ((8 * gt) + k) ((((mGB ((mWorkN (iF g 1100 0) gt n k).1) gt k n).1).1 22 ((8 * gt) + k)) + ((((mGB ((mWorkN (iF g 1100 0) gt n k).1) gt k n).1).1 21 ((8 * gt) + k)) / 2))) 22 ((8 * gt) + k) 0).1 21 ((8 * gt) + k))) - (mLiveSum (iI (iI ((mGB ((mWorkN (iF g 1100 0) gt n k).1) gt k n).1) 21 ((8 * gt) + k) ((((mGB ((mWorkN (iF g 1100 0) gt n k).1) gt k n).1).1 22 ((8 * gt) + k)) + ((((mGB ((mWorkN (iF g 1100 0) gt n k).1) gt k n).1).1 21 ((8 * gt) + k)) / 2))) 22 ((8 * gt) + k) 0) gt k n))), (4, .int (nI ((8 * gt) + k))), (0, .ref a0), (1, .int (nI gt)), (3, .int (nI k))]) hx hb dX11_work_190 rfl hl (by decide) rfl (fun ls hl => ?_)
              refine lv_iinc (v := nI (k + 1)) (lv' := [(3, .int (nI (k + 1))), (2, .int ((x2 + ((mGB ((mWorkN (iF g 1100 0) gt n k).1) gt k n).2)) + ((mSend (iI (iI (iI (iI (iI ((mGB ((mWorkN (iF g 1100 0) gt n k).1) gt k n).1) 21 ((8 * gt) + k) ((((mGB ((mWorkN (iF g 1100 0) gt n k).1) gt k n).1).1 22 ((8 * gt) + k)) + ((((mGB ((mWorkN (iF g 1100 0) gt n k).1) gt k n).1).1 21 ((8 * gt) + k)) / 2))) 22 ((8 * gt) + k) 0) 23 ((8 * gt) + k) (((iI (iI ((mGB ((mWorkN (iF g 1100 0) gt n k).1) gt k n).1) 21 ((8 * gt) + k) ((((mGB ((mWorkN (iF g 1100 0) gt n k).1) gt k n).1).1 22 ((8 * gt) + k)) + ((((mGB ((mWorkN (iF g 1100 0) gt n k).1) gt k n).1).1 21 ((8 * gt) + k)) / 2))) 22 ((8 * gt) + k) 0).1 23 ((8 * gt) + k)) + 1)) 24 ((8 * gt) + k) 1) 25 ((8 * gt) + k) (mClk (iI (iI (iI (iI ((mGB ((mWorkN (iF g 1100 0) gt n k).1) gt k n).1) 21 ((8 * gt) + k) ((((mGB ((mWorkN (iF g 1100 0) gt n k).1) gt k n).1).1 22 ((8 * gt) + k)) + ((((mGB ((mWorkN (iF g 1100 0) gt n k).1) gt k n).1).1 21 ((8 * gt) + k)) / 2))) 22 ((8 * gt) + k) 0) 23 ((8 * gt) + k) (((iI (iI ((mGB ((mWorkN (iF g 1100 0) gt n k).1) gt k n).1) 21 ((8 * gt) + k) ((((mGB ((mWorkN (iF g 1100 0) gt n k).1) gt k n).1).1 22 ((8 * gt) + k)) + ((((mGB ((mWorkN (iF g 1100 0) gt n k).1) gt k n).1).1 21 ((8 * gt) + k)) / 2))) 22 ((8 * gt) + k) 0).1 23 ((8 * gt) + k)) + 1)) 24 ((8 * gt) + k) 1) gt)) 0 (nI gt) (nI k) ((2 * ((iI (iI ((mGB ((mWorkN (iF g 1100 0) gt n k).1) gt k n).1) 21 ((8 * gt) + k) ((((mGB ((mWorkN (iF g 1100 0) gt n k).1) gt k n).1).1 22 ((8 * gt) + k)) + ((((mGB ((mWorkN (iF g 1100 0) gt n k).1) gt k n).1).1 21 ((8 * gt) + k)) / 2))) 22 ((8 * gt) + k) 0).1 21 ((8 * gt) + k))) - (mLiveSum (iI (iI ((mGB ((mWorkN (iF g 1100 0) gt n k).1) gt k n).1) 21 ((8 * gt) + k) ((((mGB ((mWorkN (iF g 1100 0) gt n k).1) gt k n).1).1 22 ((8 * gt) + k)) + ((((mGB ((mWorkN (iF g 1100 0) gt n k).1) gt k n).1).1 21 ((8 * gt) + k)) / 2))) 22 ((8 * gt) + k) 0) gt k n)) ((iI (iI (iI (iI (iI ((mGB ((mWorkN (iF g 1100 0) gt n k).1) gt k n).1) 21 ((8 * gt) + k) ((((mGB ((mWorkN (iF g 1100 0) gt n k).1) gt k n).1).1 22 ((8 * gt) + k)) + ((((mGB ((mWorkN (iF g 1100 0) gt n k).1) gt k n).1).1 21 ((8 * gt) + k)) / 2))) 22 ((8 * gt) + k) 0) 23 ((8 * gt) + k) (((iI (iI ((mGB ((mWorkN (iF g 1100 0) gt n k).1) gt k n).1) 21 ((8 * gt) + k) ((((mGB ((mWorkN (iF g 1100 0) gt n k).1) gt k n).1).1 22 ((8 * gt) + k)) + ((((mGB ((mWorkN (iF g 1100 0) gt n k).1) gt k n).1).1 21 ((8 * gt) + k)) / 2))) 22 ((8 * gt) + k) 0).1 23 ((8 * gt) + k)) + 1)) 24 ((8 * gt) + k) 1) 25 ((8 * gt) + k) (mClk (iI (iI (iI (iI ((mGB ((mWorkN (iF g 1100 0) gt n k).1) gt k n).1) 21 ((8 * gt) + k) ((((mGB ((mWorkN (iF g 1100 0) gt n k).1) gt k n).1).1 22 ((8 * gt) + k)) + ((((mGB ((mWorkN (iF g 1100 0) gt n k).1) gt k n).1).1 21 ((8 * gt) + k)) / 2))) 22 ((8 * gt) + k) 0) 23 ((8 * gt) + k) (((iI (iI ((mGB ((mWorkN (iF g 1100 0) gt n k).1) gt k n).1) 21 ((8 * gt) + k) ((((mGB ((mWorkN (iF g 1100 0) gt n k).1) gt k n).1).1 22 ((8 * gt) + k)) + ((((mGB ((mWorkN (iF g 1100 0) gt n k).1) gt k n).1).1 21 ((8 * gt) + k)) / 2))) 22 ((8 * gt) + k) 0).1 23 ((8 * gt) + k)) + 1)) 24 ((8 * gt) + k) 1) gt)).1 20 gt) ((iI (iI (iI (iI (iI ((mGB ((mWorkN (iF g 1100 0) gt n k).1) gt k n).1) 21 ((8 * gt) + k) ((((mGB ((mWorkN (iF g 1100 0) gt n k).1) gt k n).1).1 22 ((8 * gt) + k)) + ((((mGB ((mWorkN (iF g 1100 0) gt n k).1) gt k n).1).1 21 ((8 * gt) + k)) / 2))) 22 ((8 * gt) + k) 0) 23 ((8 * gt) + k) (((iI (iI ((mGB ((mWorkN (iF g 1100 0) gt n k).1) gt k n).1) 21 ((8 * gt) + k) ((((mGB ((mWorkN (iF g 1100 0) gt n k).1) gt k n).1).1 22 ((8 * gt) + k)) + ((((mGB ((mWorkN (iF g 1100 0) gt n k).1) gt k n).1).1 21 ((8 * gt) + k)) / 2))) 22 ((8 * gt) + k) 0).1 23 ((8 * gt) + k)) + 1)) 24 ((8 * gt) + k) 1) 25 ((8 * gt) + k) (mClk (iI (iI (iI (iI ((mGB ((mWorkN (iF g 1100 0) gt n k).1) gt k n).1) 21 ((8 * gt) + k) ((((mGB ((mWorkN (iF g 1100 0) gt n k).1) gt k n).1).1 22 ((8 * gt) + k)) + ((((mGB ((mWorkN (iF g 1100 0) gt n k).1) gt k n).1).1 21 ((8 * gt) + k)) / 2))) 22 ((8 * gt) + k) 0) 23 ((8 * gt) + k) (((iI (iI ((mGB ((mWorkN (iF g 1100 0) gt n k).1) gt k n).1) 21 ((8 * gt) + k) ((((mGB ((mWorkN (iF g 1100 0) gt n k).1) gt k n).1).1 22 ((8 * gt) + k)) + ((((mGB ((mWorkN (iF g 1100 0) gt n k).1) gt k n).1).1 21 ((8 * gt) + k)) / 2))) 22 ((8 * gt) + k) 0).1 23 ((8 * gt) + k)) + 1)) 24 ((8 * gt) + k) 1) gt)).1 23 ((8 * gt) + k)) (-1)).2))), (5, .int ((2 * ((iI (iI ((mGB ((mWorkN (iF g 1100 0) gt n k).1) gt k n).1) 21 ((8 * gt) + k) ((((mGB ((mWorkN (iF g 1100 0) gt n k).1) gt k n).1).1 22 ((8 * gt) + k)) + ((((mGB ((mWorkN (iF g 1100 0) gt n k).1) gt k n).1).1 21 ((8 * gt) + k)) / 2))) 22 ((8 * gt) + k) 0).1 21 ((8 * gt) + k))) - (mLiveSum (iI (iI ((mGB ((mWorkN (iF g 1100 0) gt n k).1) gt k n).1) 21 ((8 * gt) + k) ((((mGB ((mWorkN (iF g 1100 0) gt n k).1) gt k n).1).1 22 ((8 * gt) + k)) + ((((mGB ((mWorkN (iF g 1100 0) gt n k).1) gt k n).1).1 21 ((8 * gt) + k)) / 2))) 22 ((8 * gt) + k) 0) gt k n))), (4, .int (nI ((8 * gt) + k))), (0, .ref a0), (1, .int (nI gt))]) hx hb dX11_work_191 hl (k := 5) rfl (nI_add k 1) (by decide) rfl (fun ls hl => ?_)
              refine lv_goto (tgt := 27) hx hb dX11_work_194 (by decide) ?_
              exact ih (k + 1) _ _ _ _ ls (by omega) (by omega) (by rw [show mWorkN (iF g 1100 0) gt n (k + 1) = mWorkE (mGB (mWorkN (iF g 1100 0) gt n k).1 gt k n) (mWorkN (iF g 1100 0) gt n k).2 gt k n from rfl, mWorkE, if_pos ⟨Int32.not_le.mp c_102, Or.inl c_112⟩]; exact hR) hO (by rw [show mWorkN (iF g 1100 0) gt n (k + 1) = mWorkE (mGB (mWorkN (iF g 1100 0) gt n k).1 gt k n) (mWorkN (iF g 1100 0) gt n k).2 gt k n from rfl, mWorkE, if_pos ⟨Int32.not_le.mp c_102, Or.inl c_112⟩, e2]; try rfl) hW hS (lv_sub hl [4, 5, 1, 0] rfl)
            · refine lv_aload_n hx hb dX11_work_115 rfl (lv_at hl 3 rfl) ?_
              refine lv_iload_n hx hb dX11_work_116 rfl (lv_at hl 4 rfl) ?_
              refine k_callVi (As := [.int (nI gt)]) (rest := []) C hml (c_X11_clockOf (k := gt) hR (by omega)) (cwV 1 hts gX11_work_X11_clockOf rfl rfl rfl (by decide +kernel) ⟨by decide, by decide⟩) hW hS hB (hR.1.1).1 (pAt_11 (hR.1.1).2) rfl rfl hl.1 rfl (Nat.le_of_ble_eq_true rfl) dX11_work_117 ⟨Nat.le_of_ble_eq_true rfl, Nat.le_of_ble_eq_true rfl⟩ (fun r9 S13 H locs hp9 hW hS => ?_)
              obtain ⟨e8, e9⟩ := hp9
              rw [e8] at hW
              subst e9
              refine lv_aload_n hx hb dX11_work_120 rfl (lv_at hl 3 rfl) ?_
              refine g_1125 C hinX11 hW hR.1.1 (mA_25 hR.1) l82 dX11_work_121 ?_
              refine lv_iload hx hb dX11_work_124 (lv_at hl 1 rfl) ?_
              refine a_Iload C hW (j := ((8 * gt) + k)) (mK_25 hR.1) (mN_25 hR.1) rfl (by omega) (by omega) dX11_work_126 ?_
              refine top_i (show aI S6 (t 25) ((8 * gt) + k) = (iI (iI ((mGB ((mWorkN (iF g 1100 0) gt n k).1) gt k n).1) 21 ((8 * gt) + k) ((((mGB ((mWorkN (iF g 1100 0) gt n k).1) gt k n).1).1 22 ((8 * gt) + k)) + ((((mGB ((mWorkN (iF g 1100 0) gt n k).1) gt k n).1).1 21 ((8 * gt) + k)) / 2))) 22 ((8 * gt) + k) 0).1 25 ((8 * gt) + k) from hR.i 25 ((8 * gt) + k)) ?_
              refine lv_isub hx hb dX11_work_127 ?_
              refine lv_sipush (v := 500) hx hb dX11_work_128 (by decide) ?_
              refine lv_icmp_lt (tgt := 191) hx hb dX11_work_131 (by decide) (fun c_131 => ?_) (fun c_131 => ?_)
              · refine lv_iinc (v := nI (k + 1)) (lv' := [(3, .int (nI (k + 1))), (5, .int ((2 * ((iI (iI ((mGB ((mWorkN (iF g 1100 0) gt n k).1) gt k n).1) 21 ((8 * gt) + k) ((((mGB ((mWorkN (iF g 1100 0) gt n k).1) gt k n).1).1 22 ((8 * gt) + k)) + ((((mGB ((mWorkN (iF g 1100 0) gt n k).1) gt k n).1).1 21 ((8 * gt) + k)) / 2))) 22 ((8 * gt) + k) 0).1 21 ((8 * gt) + k))) - (mLiveSum (iI (iI ((mGB ((mWorkN (iF g 1100 0) gt n k).1) gt k n).1) 21 ((8 * gt) + k) ((((mGB ((mWorkN (iF g 1100 0) gt n k).1) gt k n).1).1 22 ((8 * gt) + k)) + ((((mGB ((mWorkN (iF g 1100 0) gt n k).1) gt k n).1).1 21 ((8 * gt) + k)) / 2))) 22 ((8 * gt) + k) 0) gt k n))), (4, .int (nI ((8 * gt) + k))), (2, .int (x2 + ((mGB ((mWorkN (iF g 1100 0) gt n k).1) gt k n).2))), (0, .ref a0), (1, .int (nI gt))]) hx hb dX11_work_191 hl (k := 5) rfl (nI_add k 1) (by decide) rfl (fun ls hl => ?_)
                refine lv_goto (tgt := 27) hx hb dX11_work_194 (by decide) ?_
                exact ih (k + 1) _ _ _ _ ls (by omega) (by omega) (by rw [show mWorkN (iF g 1100 0) gt n (k + 1) = mWorkE (mGB (mWorkN (iF g 1100 0) gt n k).1 gt k n) (mWorkN (iF g 1100 0) gt n k).2 gt k n from rfl, mWorkE, if_neg (fun z => z.2.elim (fun y => c_112 y) (fun y => absurd c_131 (Int32.not_lt.mpr y)))]; exact hR) hO (by rw [show mWorkN (iF g 1100 0) gt n (k + 1) = mWorkE (mGB (mWorkN (iF g 1100 0) gt n k).1 gt k n) (mWorkN (iF g 1100 0) gt n k).2 gt k n from rfl, mWorkE, if_neg (fun z => z.2.elim (fun y => c_112 y) (fun y => absurd c_131 (Int32.not_lt.mpr y))), e2]; try rfl) hW hS (lv_sub hl [4, 5, 3, 0] rfl)
              · refine lv_aload_n hx hb dX11_work_134 rfl (lv_at hl 3 rfl) ?_
                refine g_1123 C hinX11 hW hR.1.1 (mA_23 hR.1) l76 dX11_work_135 ?_
                refine lv_iload hx hb dX11_work_138 (lv_at hl 1 rfl) ?_
                refine lv_dup2_11 hx hb dX11_work_140 rfl rfl ?_
                refine a_Iload C hW (j := ((8 * gt) + k)) (mK_23 hR.1) (mN_23 hR.1) rfl (by omega) (by omega) dX11_work_141 ?_
                refine top_i (show aI S6 (t 23) ((8 * gt) + k) = (iI (iI ((mGB ((mWorkN (iF g 1100 0) gt n k).1) gt k n).1) 21 ((8 * gt) + k) ((((mGB ((mWorkN (iF g 1100 0) gt n k).1) gt k n).1).1 22 ((8 * gt) + k)) + ((((mGB ((mWorkN (iF g 1100 0) gt n k).1) gt k n).1).1 21 ((8 * gt) + k)) / 2))) 22 ((8 * gt) + k) 0).1 23 ((8 * gt) + k) from hR.i 23 ((8 * gt) + k)) ?_
                refine lv_iconst (v := 1) hx hb dX11_work_142 (by decide) ?_
                refine lv_iadd hx hb dX11_work_143 ?_
                refine a_Istore C hW hS (j := ((8 * gt) + k)) (mK_23 hR.1) (mN_23 hR.1) rfl (by omega) (by omega) dX11_work_144 (fun S14 H locs e1 hW hS => ?_)
                have hR : MR S14 a0 t (iI (iI (iI ((mGB ((mWorkN (iF g 1100 0) gt n k).1) gt k n).1) 21 ((8 * gt) + k) ((((mGB ((mWorkN (iF g 1100 0) gt n k).1) gt k n).1).1 22 ((8 * gt) + k)) + ((((mGB ((mWorkN (iF g 1100 0) gt n k).1) gt k n).1).1 21 ((8 * gt) + k)) / 2))) 22 ((8 * gt) + k) 0) 23 ((8 * gt) + k) (((iI (iI ((mGB ((mWorkN (iF g 1100 0) gt n k).1) gt k n).1) 21 ((8 * gt) + k) ((((mGB ((mWorkN (iF g 1100 0) gt n k).1) gt k n).1).1 22 ((8 * gt) + k)) + ((((mGB ((mWorkN (iF g 1100 0) gt n k).1) gt k n).1).1 21 ((8 * gt) + k)) / 2))) 22 ((8 * gt) + k) 0).1 23 ((8 * gt) + k)) + 1)) := by rw [e1]; exact hR.wI
                replace hO : MO S S14 a0 t := by rw [e1]; exact hO.wI
                clear e1
                refine lv_aload_n hx hb dX11_work_145 rfl (lv_at hl 3 rfl) ?_
                refine g_1124 C hinX11 hW hR.1.1 (mA_24 hR.1) l79 dX11_work_146 ?_
                refine lv_iload hx hb dX11_work_149 (lv_at hl 1 rfl) ?_
                refine lv_iconst (v := 1) hx hb dX11_work_151 (by decide) ?_
                refine a_Zstore C hW hS (j := ((8 * gt) + k)) (mK_24 hR.1) (mN_24 hR.1) rfl (by omega) (by omega) (by decide) dX11_work_152 (fun S15 H locs e1 hW hS => ?_)
                have hR : MR S15 a0 t (iI (iI (iI (iI ((mGB ((mWorkN (iF g 1100 0) gt n k).1) gt k n).1) 21 ((8 * gt) + k) ((((mGB ((mWorkN (iF g 1100 0) gt n k).1) gt k n).1).1 22 ((8 * gt) + k)) + ((((mGB ((mWorkN (iF g 1100 0) gt n k).1) gt k n).1).1 21 ((8 * gt) + k)) / 2))) 22 ((8 * gt) + k) 0) 23 ((8 * gt) + k) (((iI (iI ((mGB ((mWorkN (iF g 1100 0) gt n k).1) gt k n).1) 21 ((8 * gt) + k) ((((mGB ((mWorkN (iF g 1100 0) gt n k).1) gt k n).1).1 22 ((8 * gt) + k)) + ((((mGB ((mWorkN (iF g 1100 0) gt n k).1) gt k n).1).1 21 ((8 * gt) + k)) / 2))) 22 ((8 * gt) + k) 0).1 23 ((8 * gt) + k)) + 1)) 24 ((8 * gt) + k) 1) := by rw [e1]; exact hR.wI
                replace hO : MO S S15 a0 t := by rw [e1]; exact hO.wI
                clear e1
                refine lv_aload_n hx hb dX11_work_153 rfl (lv_at hl 3 rfl) ?_
                refine g_1125 C hinX11 hW hR.1.1 (mA_25 hR.1) l82 dX11_work_154 ?_
                refine lv_iload hx hb dX11_work_157 (lv_at hl 1 rfl) ?_
                refine lv_aload_n hx hb dX11_work_159 rfl (lv_at hl 3 rfl) ?_
                refine lv_iload_n hx hb dX11_work_160 rfl (lv_at hl 4 rfl) ?_
                refine k_callVi (As := [.int (nI gt)]) (rest := [.int (nI ((8 * gt) + k)), .ref (t 25)]) C hml (c_X11_clockOf (k := gt) hR (by omega)) (cwV 1 hts gX11_work_X11_clockOf rfl rfl rfl (by decide +kernel) ⟨by decide, by decide⟩) hW hS hB (hR.1.1).1 (pAt_11 (hR.1.1).2) rfl rfl hl.1 rfl (Nat.le_of_ble_eq_true rfl) dX11_work_161 ⟨Nat.le_of_ble_eq_true rfl, Nat.le_of_ble_eq_true rfl⟩ (fun r9 S16 H locs hp9 hW hS => ?_)
                obtain ⟨e8, e9⟩ := hp9
                rw [e8] at hW
                subst e9
                refine a_Istore C hW hS (j := ((8 * gt) + k)) (mK_25 hR.1) (mN_25 hR.1) rfl (by omega) (by omega) dX11_work_164 (fun S17 H locs e1 hW hS => ?_)
                have hR : MR S17 a0 t (iI (iI (iI (iI (iI ((mGB ((mWorkN (iF g 1100 0) gt n k).1) gt k n).1) 21 ((8 * gt) + k) ((((mGB ((mWorkN (iF g 1100 0) gt n k).1) gt k n).1).1 22 ((8 * gt) + k)) + ((((mGB ((mWorkN (iF g 1100 0) gt n k).1) gt k n).1).1 21 ((8 * gt) + k)) / 2))) 22 ((8 * gt) + k) 0) 23 ((8 * gt) + k) (((iI (iI ((mGB ((mWorkN (iF g 1100 0) gt n k).1) gt k n).1) 21 ((8 * gt) + k) ((((mGB ((mWorkN (iF g 1100 0) gt n k).1) gt k n).1).1 22 ((8 * gt) + k)) + ((((mGB ((mWorkN (iF g 1100 0) gt n k).1) gt k n).1).1 21 ((8 * gt) + k)) / 2))) 22 ((8 * gt) + k) 0).1 23 ((8 * gt) + k)) + 1)) 24 ((8 * gt) + k) 1) 25 ((8 * gt) + k) (mClk (iI (iI (iI (iI ((mGB ((mWorkN (iF g 1100 0) gt n k).1) gt k n).1) 21 ((8 * gt) + k) ((((mGB ((mWorkN (iF g 1100 0) gt n k).1) gt k n).1).1 22 ((8 * gt) + k)) + ((((mGB ((mWorkN (iF g 1100 0) gt n k).1) gt k n).1).1 21 ((8 * gt) + k)) / 2))) 22 ((8 * gt) + k) 0) 23 ((8 * gt) + k) (((iI (iI ((mGB ((mWorkN (iF g 1100 0) gt n k).1) gt k n).1) 21 ((8 * gt) + k) ((((mGB ((mWorkN (iF g 1100 0) gt n k).1) gt k n).1).1 22 ((8 * gt) + k)) + ((((mGB ((mWorkN (iF g 1100 0) gt n k).1) gt k n).1).1 21 ((8 * gt) + k)) / 2))) 22 ((8 * gt) + k) 0).1 23 ((8 * gt) + k)) + 1)) 24 ((8 * gt) + k) 1) gt)) := by rw [e1]; exact hR.wI
                replace hO : MO S S17 a0 t := by rw [e1]; exact hO.wI
                clear e1
                refine lv_iload_n hx hb dX11_work_165 rfl (lv_at hl 2 rfl) ?_
                refine lv_aload_n hx hb dX11_work_166 rfl (lv_at hl 3 rfl) ?_
                refine lv_iconst (v := 0) hx hb dX11_work_167 (by decide) ?_
                refine lv_iload_n hx hb dX11_work_168 rfl (lv_at hl 4 rfl) ?_
                refine lv_iload_n hx hb dX11_work_169 rfl (lv_at hl 5 rfl) ?_
                refine lv_iload hx hb dX11_work_170 (lv_at hl 0 rfl) ?_
                refine lv_aload_n hx hb dX11_work_172 rfl (lv_at hl 3 rfl) ?_
                refine g_1120 C hinX11 hW hR.1.1 (mA_20 hR.1) l67 dX11_work_173 ?_
                refine lv_iload_n hx hb dX11_work_176 rfl (lv_at hl 4 rfl) ?_
                refine a_Iload C hW (j := gt) (mK_20 hR.1) (mN_20 hR.1) rfl (by omega) (by omega) dX11_work_177 ?_
                refine top_i (show aI S17 (t 20) gt = (iI (iI (iI (iI (iI ((mGB ((mWorkN (iF g 1100 0) gt n k).1) gt k n).1) 21 ((8 * gt) + k) ((((mGB ((mWorkN (iF g 1100 0) gt n k).1) gt k n).1).1 22 ((8 * gt) + k)) + ((((mGB ((mWorkN (iF g 1100 0) gt n k).1) gt k n).1).1 21 ((8 * gt) + k)) / 2))) 22 ((8 * gt) + k) 0) 23 ((8 * gt) + k) (((iI (iI ((mGB ((mWorkN (iF g 1100 0) gt n k).1) gt k n).1) 21 ((8 * gt) + k) ((((mGB ((mWorkN (iF g 1100 0) gt n k).1) gt k n).1).1 22 ((8 * gt) + k)) + ((((mGB ((mWorkN (iF g 1100 0) gt n k).1) gt k n).1).1 21 ((8 * gt) + k)) / 2))) 22 ((8 * gt) + k) 0).1 23 ((8 * gt) + k)) + 1)) 24 ((8 * gt) + k) 1) 25 ((8 * gt) + k) (mClk (iI (iI (iI (iI ((mGB ((mWorkN (iF g 1100 0) gt n k).1) gt k n).1) 21 ((8 * gt) + k) ((((mGB ((mWorkN (iF g 1100 0) gt n k).1) gt k n).1).1 22 ((8 * gt) + k)) + ((((mGB ((mWorkN (iF g 1100 0) gt n k).1) gt k n).1).1 21 ((8 * gt) + k)) / 2))) 22 ((8 * gt) + k) 0) 23 ((8 * gt) + k) (((iI (iI ((mGB ((mWorkN (iF g 1100 0) gt n k).1) gt k n).1) 21 ((8 * gt) + k) ((((mGB ((mWorkN (iF g 1100 0) gt n k).1) gt k n).1).1 22 ((8 * gt) + k)) + ((((mGB ((mWorkN (iF g 1100 0) gt n k).1) gt k n).1).1 21 ((8 * gt) + k)) / 2))) 22 ((8 * gt) + k) 0).1 23 ((8 * gt) + k)) + 1)) 24 ((8 * gt) + k) 1) gt)).1 20 gt from hR.i 20 gt) ?_
                refine lv_aload_n hx hb dX11_work_178 rfl (lv_at hl 3 rfl) ?_
                refine g_1123 C hinX11 hW hR.1.1 (mA_23 hR.1) l76 dX11_work_179 ?_
                refine lv_iload hx hb dX11_work_182 (lv_at hl 1 rfl) ?_
                refine a_Iload C hW (j := ((8 * gt) + k)) (mK_23 hR.1) (mN_23 hR.1) rfl (by omega) (by omega) dX11_work_184 ?_
                refine top_i (show aI S17 (t 23) ((8 * gt) + k) = (iI (iI (iI (iI (iI ((mGB ((mWorkN (iF g 1100 0) gt n k).1) gt k n).1) 21 ((8 * gt) + k) ((((mGB ((mWorkN (iF g 1100 0) gt n k).1) gt k n).1).1 22 ((8 * gt) + k)) + ((((mGB ((mWorkN (iF g 1100 0) gt n k).1) gt k n).1).1 21 ((8 * gt) + k)) / 2))) 22 ((8 * gt) + k) 0) 23 ((8 * gt) + k) (((iI (iI ((mGB ((mWorkN (iF g 1100 0) gt n k).1) gt k n).1) 21 ((8 * gt) + k) ((((mGB ((mWorkN (iF g 1100 0) gt n k).1) gt k n).1).1 22 ((8 * gt) + k)) + ((((mGB ((mWorkN (iF g 1100 0) gt n k).1) gt k n).1).1 21 ((8 * gt) + k)) / 2))) 22 ((8 * gt) + k) 0).1 23 ((8 * gt) + k)) + 1)) 24 ((8 * gt) + k) 1) 25 ((8 * gt) + k) (mClk (iI (iI (iI (iI ((mGB ((mWorkN (iF g 1100 0) gt n k).1) gt k n).1) 21 ((8 * gt) + k) ((((mGB ((mWorkN (iF g 1100 0) gt n k).1) gt k n).1).1 22 ((8 * gt) + k)) + ((((mGB ((mWorkN (iF g 1100 0) gt n k).1) gt k n).1).1 21 ((8 * gt) + k)) / 2))) 22 ((8 * gt) + k) 0) 23 ((8 * gt) + k) (((iI (iI ((mGB ((mWorkN (iF g 1100 0) gt n k).1) gt k n).1) 21 ((8 * gt) + k) ((((mGB ((mWorkN (iF g 1100 0) gt n k).1) gt k n).1).1 22 ((8 * gt) + k)) + ((((mGB ((mWorkN (iF g 1100 0) gt n k).1) gt k n).1).1 21 ((8 * gt) + k)) / 2))) 22 ((8 * gt) + k) 0).1 23 ((8 * gt) + k)) + 1)) 24 ((8 * gt) + k) 1) gt)).1 23 ((8 * gt) + k) from hR.i 23 ((8 * gt) + k)) ?_
                refine lv_iconst (v := (-1)) hx hb dX11_work_185 (by decide) ?_
                refine k_callVi (As := [.int 0, .int (nI gt), .int (nI k), .int ((2 * ((iI (iI ((mGB ((mWorkN (iF g 1100 0) gt n k).1) gt k n).1) 21 ((8 * gt) + k) ((((mGB ((mWorkN (iF g 1100 0) gt n k).1) gt k n).1).1 22 ((8 * gt) + k)) + ((((mGB ((mWorkN (iF g 1100 0) gt n k).1) gt k n).1).1 21 ((8 * gt) + k)) / 2))) 22 ((8 * gt) + k) 0).1 21 ((8 * gt) + k))) - (mLiveSum (iI (iI ((mGB ((mWorkN (iF g 1100 0) gt n k).1) gt k n).1) 21 ((8 * gt) + k) ((((mGB ((mWorkN (iF g 1100 0) gt n k).1) gt k n).1).1 22 ((8 * gt) + k)) + ((((mGB ((mWorkN (iF g 1100 0) gt n k).1) gt k n).1).1 21 ((8 * gt) + k)) / 2))) 22 ((8 * gt) + k) 0) gt k n)), .int ((iI (iI (iI (iI (iI ((mGB ((mWorkN (iF g 1100 0) gt n k).1) gt k n).1) 21 ((8 * gt) + k) ((((mGB ((mWorkN (iF g 1100 0) gt n k).1) gt k n).1).1 22 ((8 * gt) + k)) + ((((mGB ((mWorkN (iF g 1100 0) gt n k).1) gt k n).1).1 21 ((8 * gt) + k)) / 2))) 22 ((8 * gt) + k) 0) 23 ((8 * gt) + k) (((iI (iI ((mGB ((mWorkN (iF g 1100 0) gt n k).1) gt k n).1) 21 ((8 * gt) + k) ((((mGB ((mWorkN (iF g 1100 0) gt n k).1) gt k n).1).1 22 ((8 * gt) + k)) + ((((mGB ((mWorkN (iF g 1100 0) gt n k).1) gt k n).1).1 21 ((8 * gt) + k)) / 2))) 22 ((8 * gt) + k) 0).1 23 ((8 * gt) + k)) + 1)) 24 ((8 * gt) + k) 1) 25 ((8 * gt) + k) (mClk (iI (iI (iI (iI ((mGB ((mWorkN (iF g 1100 0) gt n k).1) gt k n).1) 21 ((8 * gt) + k) ((((mGB ((mWorkN (iF g 1100 0) gt n k).1) gt k n).1).1 22 ((8 * gt) + k)) + ((((mGB ((mWorkN (iF g 1100 0) gt n k).1) gt k n).1).1 21 ((8 * gt) + k)) / 2))) 22 ((8 * gt) + k) 0) 23 ((8 * gt) + k) (((iI (iI ((mGB ((mWorkN (iF g 1100 0) gt n k).1) gt k n).1) 21 ((8 * gt) + k) ((((mGB ((mWorkN (iF g 1100 0) gt n k).1) gt k n).1).1 22 ((8 * gt) + k)) + ((((mGB ((mWorkN (iF g 1100 0) gt n k).1) gt k n).1).1 21 ((8 * gt) + k)) / 2))) 22 ((8 * gt) + k) 0).1 23 ((8 * gt) + k)) + 1)) 24 ((8 * gt) + k) 1) gt)).1 20 gt), .int ((iI (iI (iI (iI (iI ((mGB ((mWorkN (iF g 1100 0) gt n k).1) gt k n).1) 21 ((8 * gt) + k) ((((mGB ((mWorkN (iF g 1100 0) gt n k).1) gt k n).1).1 22 ((8 * gt) + k)) + ((((mGB ((mWorkN (iF g 1100 0) gt n k).1) gt k n).1).1 21 ((8 * gt) + k)) / 2))) 22 ((8 * gt) + k) 0) 23 ((8 * gt) + k) (((iI (iI ((mGB ((mWorkN (iF g 1100 0) gt n k).1) gt k n).1) 21 ((8 * gt) + k) ((((mGB ((mWorkN (iF g 1100 0) gt n k).1) gt k n).1).1 22 ((8 * gt) + k)) + ((((mGB ((mWorkN (iF g 1100 0) gt n k).1) gt k n).1).1 21 ((8 * gt) + k)) / 2))) 22 ((8 * gt) + k) 0).1 23 ((8 * gt) + k)) + 1)) 24 ((8 * gt) + k) 1) 25 ((8 * gt) + k) (mClk (iI (iI (iI (iI ((mGB ((mWorkN (iF g 1100 0) gt n k).1) gt k n).1) 21 ((8 * gt) + k) ((((mGB ((mWorkN (iF g 1100 0) gt n k).1) gt k n).1).1 22 ((8 * gt) + k)) + ((((mGB ((mWorkN (iF g 1100 0) gt n k).1) gt k n).1).1 21 ((8 * gt) + k)) / 2))) 22 ((8 * gt) + k) 0) 23 ((8 * gt) + k) (((iI (iI ((mGB ((mWorkN (iF g 1100 0) gt n k).1) gt k n).1) 21 ((8 * gt) + k) ((((mGB ((mWorkN (iF g 1100 0) gt n k).1) gt k n).1).1 22 ((8 * gt) + k)) + ((((mGB ((mWorkN (iF g 1100 0) gt n k).1) gt k n).1).1 21 ((8 * gt) + k)) / 2))) 22 ((8 * gt) + k) 0).1 23 ((8 * gt) + k)) + 1)) 24 ((8 * gt) + k) 1) gt)).1 23 ((8 * gt) + k)), .int (-1)]) (rest := [.int (x2 + ((mGB ((mWorkN (iF g 1100 0) gt n k).1) gt k n).2))]) C hml (c_X11_send hR hm) (cwV 7 hts gX11_work_X11_send rfl rfl rfl (by decide +kernel) ⟨by decide, by decide⟩) hW hS hB (hR.1.1).1 (pAt_11 (hR.1.1).2) rfl rfl hl.1 rfl (Nat.le_of_ble_eq_true rfl) dX11_work_186 ⟨Nat.le_of_ble_eq_true rfl, Nat.le_of_ble_eq_true rfl⟩ (fun r9 S18 H locs hp9 hW hS => ?_)
                obtain ⟨hO9, hR, e9⟩ := hp9
                replace hO := hO.tr hO9
                subst e9
                clear hO9
                refine lv_iadd hx hb dX11_work_189 ?_
                refine lv_istore_n (lv' := [(2, .int ((x2 + ((mGB ((mWorkN (iF g 1100 0) gt n k).1) gt k n).2)) + ((mSend (iI (iI (iI (iI (iI ((mGB ((mWorkN (iF g 1100 0) gt n k).1) gt k n).1) 21 ((8 * gt) + k) ((((mGB ((mWorkN (iF g 1100 0) gt n k).1) gt k n).1).1 22 ((8 * gt) + k)) + ((((mGB ((mWorkN (iF g 1100 0) gt n k).1) gt k n).1).1 21 ((8 * gt) + k)) / 2))) 22 ((8 * gt) + k) 0) 23 ((8 * gt) + k) (((iI (iI ((mGB ((mWorkN (iF g 1100 0) gt n k).1) gt k n).1) 21 ((8 * gt) + k) ((((mGB ((mWorkN (iF g 1100 0) gt n k).1) gt k n).1).1 22 ((8 * gt) + k)) + ((((mGB ((mWorkN (iF g 1100 0) gt n k).1) gt k n).1).1 21 ((8 * gt) + k)) / 2))) 22 ((8 * gt) + k) 0).1 23 ((8 * gt) + k)) + 1)) 24 ((8 * gt) + k) 1) 25 ((8 * gt) + k) (mClk (iI (iI (iI (iI ((mGB ((mWorkN (iF g 1100 0) gt n k).1) gt k n).1) 21 ((8 * gt) + k) ((((mGB ((mWorkN (iF g 1100 0) gt n k).1) gt k n).1).1 22 ((8 * gt) + k)) + ((((mGB ((mWorkN (iF g 1100 0) gt n k).1) gt k n).1).1 21 ((8 * gt) + k)) / 2))) 22 ((8 * gt) + k) 0) 23 ((8 * gt) + k) (((iI (iI ((mGB ((mWorkN (iF g 1100 0) gt n k).1) gt k n).1) 21 ((8 * gt) + k) ((((mGB ((mWorkN (iF g 1100 0) gt n k).1) gt k n).1).1 22 ((8 * gt) + k)) + ((((mGB ((mWorkN (iF g 1100 0) gt n k).1) gt k n).1).1 21 ((8 * gt) + k)) / 2))) 22 ((8 * gt) + k) 0).1 23 ((8 * gt) + k)) + 1)) 24 ((8 * gt) + k) 1) gt)) 0 (nI gt) (nI k) ((2 * ((iI (iI ((mGB ((mWorkN (iF g 1100 0) gt n k).1) gt k n).1) 21 ((8 * gt) + k) ((((mGB ((mWorkN (iF g 1100 0) gt n k).1) gt k n).1).1 22 ((8 * gt) + k)) + ((((mGB ((mWorkN (iF g 1100 0) gt n k).1) gt k n).1).1 21 ((8 * gt) + k)) / 2))) 22 ((8 * gt) + k) 0).1 21 ((8 * gt) + k))) - (mLiveSum (iI (iI ((mGB ((mWorkN (iF g 1100 0) gt n k).1) gt k n).1) 21 ((8 * gt) + k) ((((mGB ((mWorkN (iF g 1100 0) gt n k).1) gt k n).1).1 22 ((8 * gt) + k)) + ((((mGB ((mWorkN (iF g 1100 0) gt n k).1) gt k n).1).1 21 ((8 * gt) + k)) / 2))) 22 ((8 * gt) + k) 0) gt k n)) ((iI (iI (iI (iI (iI ((mGB ((mWorkN (iF g 1100 0) gt n k).1) gt k n).1) 21 ((8 * gt) + k) ((((mGB ((mWorkN (iF g 1100 0) gt n k).1) gt k n).1).1 22 ((8 * gt) + k)) + ((((mGB ((mWorkN (iF g 1100 0) gt n k).1) gt k n).1).1 21 ((8 * gt) + k)) / 2))) 22 ((8 * gt) + k) 0) 23 ((8 * gt) + k) (((iI (iI ((mGB ((mWorkN (iF g 1100 0) gt n k).1) gt k n).1) 21 ((8 * gt) + k) ((((mGB ((mWorkN (iF g 1100 0) gt n k).1) gt k n).1).1 22 ((8 * gt) + k)) + ((((mGB ((mWorkN (iF g 1100 0) gt n k).1) gt k n).1).1 21 ((8 * gt) + k)) / 2))) 22 ((8 * gt) + k) 0).1 23 ((8 * gt) + k)) + 1)) 24 ((8 * gt) + k) 1) 25 ((8 * gt) + k) (mClk (iI (iI (iI (iI ((mGB ((mWorkN (iF g 1100 0) gt n k).1) gt k n).1) 21 ((8 * gt) + k) ((((mGB ((mWorkN (iF g 1100 0) gt n k).1) gt k n).1).1 22 ((8 * gt) + k)) + ((((mGB ((mWorkN (iF g 1100 0) gt n k).1) gt k n).1).1 21 ((8 * gt) + k)) / 2))) 22 ((8 * gt) + k) 0) 23 ((8 * gt) + k) (((iI (iI ((mGB ((mWorkN (iF g 1100 0) gt n k).1) gt k n).1) 21 ((8 * gt) + k) ((((mGB ((mWorkN (iF g 1100 0) gt n k).1) gt k n).1).1 22 ((8 * gt) + k)) + ((((mGB ((mWorkN (iF g 1100 0) gt n k).1) gt k n).1).1 21 ((8 * gt) + k)) / 2))) 22 ((8 * gt) + k) 0).1 23 ((8 * gt) + k)) + 1)) 24 ((8 * gt) + k) 1) gt)).1 20 gt) ((iI (iI (iI (iI (iI ((mGB ((mWorkN (iF g 1100 0) gt n k).1) gt k n).1) 21 ((8 * gt) + k) ((((mGB ((mWorkN (iF g 1100 0) gt n k).1) gt k n).1).1 22 ((8 * gt) + k)) + ((((mGB ((mWorkN (iF g 1100 0) gt n k).1) gt k n).1).1 21 ((8 * gt) + k)) / 2))) 22 ((8 * gt) + k) 0) 23 ((8 * gt) + k) (((iI (iI ((mGB ((mWorkN (iF g 1100 0) gt n k).1) gt k n).1) 21 ((8 * gt) + k) ((((mGB ((mWorkN (iF g 1100 0) gt n k).1) gt k n).1).1 22 ((8 * gt) + k)) + ((((mGB ((mWorkN (iF g 1100 0) gt n k).1) gt k n).1).1 21 ((8 * gt) + k)) / 2))) 22 ((8 * gt) + k) 0).1 23 ((8 * gt) + k)) + 1)) 24 ((8 * gt) + k) 1) 25 ((8 * gt) + k) (mClk (iI (iI (iI (iI ((mGB ((mWorkN (iF g 1100 0) gt n k).1) gt k n).1) 21 ((8 * gt) + k) ((((mGB ((mWorkN (iF g 1100 0) gt n k).1) gt k n).1).1 22 ((8 * gt) + k)) + ((((mGB ((mWorkN (iF g 1100 0) gt n k).1) gt k n).1).1 21 ((8 * gt) + k)) / 2))) 22 ((8 * gt) + k) 0) 23 ((8 * gt) + k) (((iI (iI ((mGB ((mWorkN (iF g 1100 0) gt n k).1) gt k n).1) 21 ((8 * gt) + k) ((((mGB ((mWorkN (iF g 1100 0) gt n k).1) gt k n).1).1 22 ((8 * gt) + k)) + ((((mGB ((mWorkN (iF g 1100 0) gt n k).1) gt k n).1).1 21 ((8 * gt) + k)) / 2))) 22 ((8 * gt) + k) 0).1 23 ((8 * gt) + k)) + 1)) 24 ((8 * gt) + k) 1) gt)).1 23 ((8 * gt) + k)) (-1)).2))), (5, .int ((2 * ((iI (iI ((mGB ((mWorkN (iF g 1100 0) gt n k).1) gt k n).1) 21 ((8 * gt) + k) ((((mGB ((mWorkN (iF g 1100 0) gt n k).1) gt k n).1).1 22 ((8 * gt) + k)) + ((((mGB ((mWorkN (iF g 1100 0) gt n k).1) gt k n).1).1 21 ((8 * gt) + k)) / 2))) 22 ((8 * gt) + k) 0).1 21 ((8 * gt) + k))) - (mLiveSum (iI (iI ((mGB ((mWorkN (iF g 1100 0) gt n k).1) gt k n).1) 21 ((8 * gt) + k) ((((mGB ((mWorkN (iF g 1100 0) gt n k).1) gt k n).1).1 22 ((8 * gt) + k)) + ((((mGB ((mWorkN (iF g 1100 0) gt n k).1) gt k n).1).1 21 ((8 * gt) + k)) / 2))) 22 ((8 * gt) + k) 0) gt k n))), (4, .int (nI ((8 * gt) + k))), (0, .ref a0), (1, .int (nI gt)), (3, .int (nI k))]) hx hb dX11_work_190 rfl hl (by decide) rfl (fun ls hl => ?_)
                refine lv_iinc (v := nI (k + 1)) (lv' := [(3, .int (nI (k + 1))), (2, .int ((x2 + ((mGB ((mWorkN (iF g 1100 0) gt n k).1) gt k n).2)) + ((mSend (iI (iI (iI (iI (iI ((mGB ((mWorkN (iF g 1100 0) gt n k).1) gt k n).1) 21 ((8 * gt) + k) ((((mGB ((mWorkN (iF g 1100 0) gt n k).1) gt k n).1).1 22 ((8 * gt) + k)) + ((((mGB ((mWorkN (iF g 1100 0) gt n k).1) gt k n).1).1 21 ((8 * gt) + k)) / 2))) 22 ((8 * gt) + k) 0) 23 ((8 * gt) + k) (((iI (iI ((mGB ((mWorkN (iF g 1100 0) gt n k).1) gt k n).1) 21 ((8 * gt) + k) ((((mGB ((mWorkN (iF g 1100 0) gt n k).1) gt k n).1).1 22 ((8 * gt) + k)) + ((((mGB ((mWorkN (iF g 1100 0) gt n k).1) gt k n).1).1 21 ((8 * gt) + k)) / 2))) 22 ((8 * gt) + k) 0).1 23 ((8 * gt) + k)) + 1)) 24 ((8 * gt) + k) 1) 25 ((8 * gt) + k) (mClk (iI (iI (iI (iI ((mGB ((mWorkN (iF g 1100 0) gt n k).1) gt k n).1) 21 ((8 * gt) + k) ((((mGB ((mWorkN (iF g 1100 0) gt n k).1) gt k n).1).1 22 ((8 * gt) + k)) + ((((mGB ((mWorkN (iF g 1100 0) gt n k).1) gt k n).1).1 21 ((8 * gt) + k)) / 2))) 22 ((8 * gt) + k) 0) 23 ((8 * gt) + k) (((iI (iI ((mGB ((mWorkN (iF g 1100 0) gt n k).1) gt k n).1) 21 ((8 * gt) + k) ((((mGB ((mWorkN (iF g 1100 0) gt n k).1) gt k n).1).1 22 ((8 * gt) + k)) + ((((mGB ((mWorkN (iF g 1100 0) gt n k).1) gt k n).1).1 21 ((8 * gt) + k)) / 2))) 22 ((8 * gt) + k) 0).1 23 ((8 * gt) + k)) + 1)) 24 ((8 * gt) + k) 1) gt)) 0 (nI gt) (nI k) ((2 * ((iI (iI ((mGB ((mWorkN (iF g 1100 0) gt n k).1) gt k n).1) 21 ((8 * gt) + k) ((((mGB ((mWorkN (iF g 1100 0) gt n k).1) gt k n).1).1 22 ((8 * gt) + k)) + ((((mGB ((mWorkN (iF g 1100 0) gt n k).1) gt k n).1).1 21 ((8 * gt) + k)) / 2))) 22 ((8 * gt) + k) 0).1 21 ((8 * gt) + k))) - (mLiveSum (iI (iI ((mGB ((mWorkN (iF g 1100 0) gt n k).1) gt k n).1) 21 ((8 * gt) + k) ((((mGB ((mWorkN (iF g 1100 0) gt n k).1) gt k n).1).1 22 ((8 * gt) + k)) + ((((mGB ((mWorkN (iF g 1100 0) gt n k).1) gt k n).1).1 21 ((8 * gt) + k)) / 2))) 22 ((8 * gt) + k) 0) gt k n)) ((iI (iI (iI (iI (iI ((mGB ((mWorkN (iF g 1100 0) gt n k).1) gt k n).1) 21 ((8 * gt) + k) ((((mGB ((mWorkN (iF g 1100 0) gt n k).1) gt k n).1).1 22 ((8 * gt) + k)) + ((((mGB ((mWorkN (iF g 1100 0) gt n k).1) gt k n).1).1 21 ((8 * gt) + k)) / 2))) 22 ((8 * gt) + k) 0) 23 ((8 * gt) + k) (((iI (iI ((mGB ((mWorkN (iF g 1100 0) gt n k).1) gt k n).1) 21 ((8 * gt) + k) ((((mGB ((mWorkN (iF g 1100 0) gt n k).1) gt k n).1).1 22 ((8 * gt) + k)) + ((((mGB ((mWorkN (iF g 1100 0) gt n k).1) gt k n).1).1 21 ((8 * gt) + k)) / 2))) 22 ((8 * gt) + k) 0).1 23 ((8 * gt) + k)) + 1)) 24 ((8 * gt) + k) 1) 25 ((8 * gt) + k) (mClk (iI (iI (iI (iI ((mGB ((mWorkN (iF g 1100 0) gt n k).1) gt k n).1) 21 ((8 * gt) + k) ((((mGB ((mWorkN (iF g 1100 0) gt n k).1) gt k n).1).1 22 ((8 * gt) + k)) + ((((mGB ((mWorkN (iF g 1100 0) gt n k).1) gt k n).1).1 21 ((8 * gt) + k)) / 2))) 22 ((8 * gt) + k) 0) 23 ((8 * gt) + k) (((iI (iI ((mGB ((mWorkN (iF g 1100 0) gt n k).1) gt k n).1) 21 ((8 * gt) + k) ((((mGB ((mWorkN (iF g 1100 0) gt n k).1) gt k n).1).1 22 ((8 * gt) + k)) + ((((mGB ((mWorkN (iF g 1100 0) gt n k).1) gt k n).1).1 21 ((8 * gt) + k)) / 2))) 22 ((8 * gt) + k) 0).1 23 ((8 * gt) + k)) + 1)) 24 ((8 * gt) + k) 1) gt)).1 20 gt) ((iI (iI (iI (iI (iI ((mGB ((mWorkN (iF g 1100 0) gt n k).1) gt k n).1) 21 ((8 * gt) + k) ((((mGB ((mWorkN (iF g 1100 0) gt n k).1) gt k n).1).1 22 ((8 * gt) + k)) + ((((mGB ((mWorkN (iF g 1100 0) gt n k).1) gt k n).1).1 21 ((8 * gt) + k)) / 2))) 22 ((8 * gt) + k) 0) 23 ((8 * gt) + k) (((iI (iI ((mGB ((mWorkN (iF g 1100 0) gt n k).1) gt k n).1) 21 ((8 * gt) + k) ((((mGB ((mWorkN (iF g 1100 0) gt n k).1) gt k n).1).1 22 ((8 * gt) + k)) + ((((mGB ((mWorkN (iF g 1100 0) gt n k).1) gt k n).1).1 21 ((8 * gt) + k)) / 2))) 22 ((8 * gt) + k) 0).1 23 ((8 * gt) + k)) + 1)) 24 ((8 * gt) + k) 1) 25 ((8 * gt) + k) (mClk (iI (iI (iI (iI ((mGB ((mWorkN (iF g 1100 0) gt n k).1) gt k n).1) 21 ((8 * gt) + k) ((((mGB ((mWorkN (iF g 1100 0) gt n k).1) gt k n).1).1 22 ((8 * gt) + k)) + ((((mGB ((mWorkN (iF g 1100 0) gt n k).1) gt k n).1).1 21 ((8 * gt) + k)) / 2))) 22 ((8 * gt) + k) 0) 23 ((8 * gt) + k) (((iI (iI ((mGB ((mWorkN (iF g 1100 0) gt n k).1) gt k n).1) 21 ((8 * gt) + k) ((((mGB ((mWorkN (iF g 1100 0) gt n k).1) gt k n).1).1 22 ((8 * gt) + k)) + ((((mGB ((mWorkN (iF g 1100 0) gt n k).1) gt k n).1).1 21 ((8 * gt) + k)) / 2))) 22 ((8 * gt) + k) 0).1 23 ((8 * gt) + k)) + 1)) 24 ((8 * gt) + k) 1) gt)).1 23 ((8 * gt) + k)) (-1)).2))), (5, .int ((2 * ((iI (iI ((mGB ((mWorkN (iF g 1100 0) gt n k).1) gt k n).1) 21 ((8 * gt) + k) ((((mGB ((mWorkN (iF g 1100 0) gt n k).1) gt k n).1).1 22 ((8 * gt) + k)) + ((((mGB ((mWorkN (iF g 1100 0) gt n k).1) gt k n).1).1 21 ((8 * gt) + k)) / 2))) 22 ((8 * gt) + k) 0).1 21 ((8 * gt) + k))) - (mLiveSum (iI (iI ((mGB ((mWorkN (iF g 1100 0) gt n k).1) gt k n).1) 21 ((8 * gt) + k) ((((mGB ((mWorkN (iF g 1100 0) gt n k).1) gt k n).1).1 22 ((8 * gt) + k)) + ((((mGB ((mWorkN (iF g 1100 0) gt n k).1) gt k n).1).1 21 ((8 * gt) + k)) / 2))) 22 ((8 * gt) + k) 0) gt k n))), (4, .int (nI ((8 * gt) + k))), (0, .ref a0), (1, .int (nI gt))]) hx hb dX11_work_191 hl (k := 5) rfl (nI_add k 1) (by decide) rfl (fun ls hl => ?_)
                refine lv_goto (tgt := 27) hx hb dX11_work_194 (by decide) ?_
                exact ih (k + 1) _ _ _ _ ls (by omega) (by omega) (by rw [show mWorkN (iF g 1100 0) gt n (k + 1) = mWorkE (mGB (mWorkN (iF g 1100 0) gt n k).1 gt k n) (mWorkN (iF g 1100 0) gt n k).2 gt k n from rfl, mWorkE, if_pos ⟨Int32.not_le.mp c_102, Or.inr (Int32.not_lt.mp c_131)⟩]; exact hR) hO (by rw [show mWorkN (iF g 1100 0) gt n (k + 1) = mWorkE (mGB (mWorkN (iF g 1100 0) gt n k).1 gt k n) (mWorkN (iF g 1100 0) gt n k).2 gt k n from rfl, mWorkE, if_pos ⟨Int32.not_le.mp c_102, Or.inr (Int32.not_lt.mp c_131)⟩, e2]; try rfl) hW hS (lv_sub hl [4, 5, 1, 0] rfl)
    exact lp (8 - 0 + 1) 0 0 _ _ _ ls (by omega) (by omega) hR hO rfl hW hS (lv_sub hl [2, 3, 1, 0] rfl)
