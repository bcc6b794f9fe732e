set_option maxRecDepth 100000 in
set_option maxHeartbeats 2000000 in
theorem c_X8_hearAsk {l : Launch} {D : va_G} {cy : Nat → ClassId} {B : Nat} {s0 : State} {S : PS} {y : Nat → Nat} {dE mi : Nat} {g : MS} {c0 : CS} {gt kk n : Nat} {b : Nat} {x0 x3 x4 x5 x6 x7 : Int32} (hC : CR S y dE g c0) (hE : EnvC dE mi B s0) (hg : gt < 6) (hk : kk < 8) (hn0 : mNew g gt kk x3 x5 → n < 300) (hnl : g.2.2 1107 = nI n) (hCB : CanB c0 g n) (hI : BInv g n) (hw9 : WOk g) (hm : MsgOk g) (ht : 0 < x4.toInt) (hc5 : 0 ≤ x5.toInt) (hM : MsgAt S b x0 (nI gt) (nI kk) x3 x4 x5 x6 x7) : KI l yX8_hearAsk wsX8_hearAsk ({ frames := 9, cells := 3, slots := 1111, locals := 240 }) D cy B s0 [.ref (y 1), .ref b, .ref (y 2)] S (fun r S2 => ∃ c2, CF S S2 y ∧ CR S2 y dE (mAsks g n gt kk x4 x3 x5).1 c2 ∧ CanB c2 (mAsks g n gt kk x4 x3 x5).1 (mN g n gt kk x4 x3 x5) ∧ cP c2 = cP c0 ∧ r = (mAsks g n gt kk x4 x3 x5).2) 3 1111 := by
  refine k_body (own := RX8) (cc := cX8_hearAsk) (maxL := 4) (ret := (some .boolean)) rfl (by decide) rfl (Nat.le_of_ble_eq_true rfl) ?_
  intro p e s m below meth c C hml hr hlk hnm hB hW ls hl
  obtain ⟨hx, hb, hts, hown, hK, hEn⟩ := id C
  have hS : va_S (Aw B) s.heap s.heap [] := va_S.rf
  have hinX0 : ∀ w ∈ wsX00, w ∈ wsX8_hearAsk := by decide +kernel
  have hinX6 : ∀ w ∈ wsX60, w ∈ wsX8_hearAsk := by decide +kernel
  have hinX8 : ∀ w ∈ wsX80, w ∈ wsX8_hearAsk := by decide +kernel
  have l30 : Cond.fieldLink RX8 30 "LeaseGates$Root" "births" "[I" ∈ wsX8_hearAsk := by decide +kernel
  have l52 : Cond.fieldLink RX8 52 "LeaseGates$Message" "birth" "I" ∈ wsX8_hearAsk := by decide +kernel
  have l57 : Cond.fieldLink RX8 57 "LeaseGates$Message" "gate" "I" ∈ wsX8_hearAsk := by decide +kernel
  have l63 : Cond.fieldLink RX8 63 "LeaseGates$Message" "key" "I" ∈ wsX8_hearAsk := by decide +kernel
  have l70 : Cond.fieldLink RX8 70 "LeaseGates$Account" "answer" "LLeaseGates$Message;" ∈ wsX8_hearAsk := by decide +kernel
  have l74 : Cond.fieldLink RX8 74 "LeaseGates$Message" "count" "I" ∈ wsX8_hearAsk := by decide +kernel
  have hl : lv_has ls 4 [(0, .ref (y 1)), (1, .ref b), (2, .ref (y 2))] := hl
  have hF : CF S S y := CF.rf
  refine lv_aload_n hx hb dX8_hearAsk_0 rfl (lv_at hl 1 rfl) ?_
  refine g_603 C hinX6 hW hM.1 l52 dX8_hearAsk_1 ?_
  refine top_i (show fI S 603 b = x3 from hM.2.2.2.2.1) ?_
  refine lv_aload_n hx hb dX8_hearAsk_4 rfl (lv_at hl 0 rfl) ?_
  refine g_803 C hinX8 hW hC.1.lay.k1 hC.1.lay.r803 l30 dX8_hearAsk_5 ?_
  refine lv_aload_n hx hb dX8_hearAsk_8 rfl (lv_at hl 1 rfl) ?_
  refine g_601 C hinX6 hW hM.1 l57 dX8_hearAsk_9 ?_
  refine top_i (show fI S 601 b = nI gt from hM.2.2.1) ?_
  refine a_Iload C hW (j := gt) hC.1.lay.k7 hC.1.lay.n7 rfl (by omega) (by omega) dX8_hearAsk_12 ?_
  refine top_i (show aI S (y 7) gt = g.1 12 gt from hC.1.hb gt (by omega)) ?_
  refine lv_icmp_ge (tgt := 18) hx hb dX8_hearAsk_13 (by decide) (fun c_13 => ?_) (fun c_13 => ?_)
  · refine lv_aload_n hx hb dX8_hearAsk_18 rfl (lv_at hl 1 rfl) ?_
    refine g_603 C hinX6 hW hM.1 l52 dX8_hearAsk_19 ?_
    refine top_i (show fI S 603 b = x3 from hM.2.2.2.2.1) ?_
    refine lv_aload_n hx hb dX8_hearAsk_22 rfl (lv_at hl 0 rfl) ?_
    refine g_803 C hinX8 hW hC.1.lay.k1 hC.1.lay.r803 l30 dX8_hearAsk_23 ?_
    refine lv_aload_n hx hb dX8_hearAsk_26 rfl (lv_at hl 1 rfl) ?_
    refine g_601 C hinX6 hW hM.1 l57 dX8_hearAsk_27 ?_
    refine top_i (show fI S 601 b = nI gt from hM.2.2.1) ?_
    refine a_Iload C hW (j := gt) hC.1.lay.k7 hC.1.lay.n7 rfl (by omega) (by omega) dX8_hearAsk_30 ?_
    refine top_i (show aI S (y 7) gt = g.1 12 gt from hC.1.hb gt (by omega)) ?_
    refine lv_icmp_le (tgt := 55) hx hb dX8_hearAsk_31 (by decide) (fun c_31 => ?_) (fun c_31 => ?_)
    · have hC : CR S y dE (mHear g gt x3) c0 := by rw [mHear, if_neg (Int32.not_lt.mpr c_31)]; exact hC
      have hq12 : (mHear g gt x3).1 12 gt = x3 := by rw [mHear, if_neg (Int32.not_lt.mpr c_31)]; exact Int32.le_antisymm c_13 c_31
      have hq1107 : (mHear g gt x3).2.2 1107 = nI n := by rw [mHear_2]; exact hnl
      have hqB : CanB c0 (mHear g gt x3) n := hCB.same (mHear_j _ _ _ (by decide) (by decide)) (mHear_j _ _ _ (by decide) (by decide))
      have hqI : BInv (mHear g gt x3) n := hI.same (mHear_j _ _ _ (by decide) (by decide)) (mHear_j _ _ _ (by decide) (by decide)) (by rw [mHear_2]) (mHear_j _ _ _ (by decide) (by decide)) (mHear_j _ _ _ (by decide) (by decide))
      have hqw : WOk (mHear g gt x3) := by unfold WOk; rw [mHear_j _ _ _ (by decide) (by decide)]; exact hw9
      have hqm : MsgOk (mHear g gt x3) := MsgOk_of (by rw [mHear_2]) hm
      refine lv_aload_n hx hb dX8_hearAsk_55 rfl (lv_at hl 0 rfl) ?_
      refine lv_aload_n hx hb dX8_hearAsk_56 rfl (lv_at hl 1 rfl) ?_
      refine g_601 C hinX6 hW hM.1 l57 dX8_hearAsk_57 ?_
      refine top_i (show fI S 601 b = nI gt from hM.2.2.1) ?_
      refine lv_aload_n hx hb dX8_hearAsk_60 rfl (lv_at hl 1 rfl) ?_
      refine g_602 C hinX6 hW hM.1 l63 dX8_hearAsk_61 ?_
      refine top_i (show fI S 602 b = nI kk from hM.2.2.2.1) ?_
      refine k_callVq (As := [.int (nI gt), .int (nI kk)]) (rest := []) C hml (c_X8_accountOf hC.1.lay (by omega) (by omega)) (cwV 2 hts gX8_hearAsk_X8_accountOf rfl rfl rfl (by decide +kernel) ⟨by decide, by decide⟩) hW hS hB (hC.1.lay.k1).1 (pAt_8 (hC.1.lay.k1).2) rfl rfl hl.1 rfl (Nat.le_of_ble_eq_true rfl) dX8_hearAsk_64 ⟨Nat.le_of_ble_eq_true rfl, Nat.le_of_ble_eq_true rfl⟩ (fun r9 S1 H locs hp9 hW hS => ?_)
      obtain ⟨e8, e9⟩ := hp9
      rw [e8] at hW
      subst e9
      refine lv_astore_n (lv' := [(3, .ref (y (300 + (8 * gt + kk)))), (0, .ref (y 1)), (1, .ref b), (2, .ref (y 2))]) hx hb dX8_hearAsk_67 rfl hl (by decide) rfl (fun ls hl => ?_)
      rcases hC.1.a3 gt kk hg hk with ⟨ha1, ha2⟩ | ⟨ha1, mm, ha2, ha3⟩
      · refine lv_aload_n hx hb dX8_hearAsk_68 rfl (lv_at hl 0 rfl) ?_
        refine g_3n C hinX0 hW (hC.1.lay.ck (8 * gt + kk) (by omega)) ha2 l70 dX8_hearAsk_69 ?_
        refine lv_ifnullN (tgt := 89) hx hb dX8_hearAsk_72 (by decide) ?_
        refine lv_aload_n hx hb dX8_hearAsk_89 rfl (lv_at hl 0 rfl) ?_
        refine lv_aload_n hx hb dX8_hearAsk_90 rfl (lv_at hl 1 rfl) ?_
        refine lv_aload_n hx hb dX8_hearAsk_91 rfl (lv_at hl 2 rfl) ?_
        refine lv_aload_n hx hb dX8_hearAsk_92 rfl (lv_at hl 0 rfl) ?_
        refine k_callVq (As := [.ref b, .ref (y (300 + (8 * gt + kk)))]) (rest := [.ref (y (300 + (8 * gt + kk)))]) C hml (c_X8_answerTo (g := (mHear g gt x3)) hC hE hg hk (hn0 ⟨Int32.not_lt.mpr c_13, (by rw [ha1, Int32.lt_iff_toInt_lt]; have e9 : (-1 : Int32).toInt = -1 := (by decide); omega)⟩) hq1107 hqB hqI hqw ht hM) (cwV 2 hts gX8_hearAsk_X8_answerTo rfl rfl rfl (by decide +kernel) ⟨by decide, by decide⟩) hW hS hB (hC.1.lay.k1).1 (pAt_8 (hC.1.lay.k1).2) rfl rfl hl.1 rfl (Nat.le_of_ble_eq_true rfl) dX8_hearAsk_93 ⟨Nat.le_of_ble_eq_true rfl, Nat.le_of_ble_eq_true rfl⟩ (fun r9 S2 H locs hp9 hW hS => ?_)
        obtain ⟨m9, c9, e9, f9, k9, hm9, b9, p9⟩ := hp9
        subst e9
        have hF9 := hF.tr f9
        clear hC hF
        have hC := k9
        have hF := hF9
        refine p_3 C hinX0 hW hS (hC.1.lay.ck (8 * gt + kk) (by omega)) l70 dX8_hearAsk_96 (fun S3 H locs e1 hW hS => ?_)
        have hF9 : CF S S3 y := by rw [e1]; exact hF.sR (hC.1.lay.ck (8 * gt + kk) (by omega)) (by decide)
        have hC9 : CR S3 y dE (iI (iI (iI (iI (kAns (mHear g gt x3) n gt kk (mGets (mHear g gt x3) gt kk x4)) 13 (8 * gt + kk) x5) 15 (8 * gt + kk) (mGets (mHear g gt x3) gt kk x4)) 16 (8 * gt + kk) ((mHear g gt x3).2.2 1111)) 14 (8 * gt + kk) (kNum n (mGets (mHear g gt x3) gt kk x4))) c9 := by rw [e1]; exact hC.answer hg hk (cnt := x5) (fun z9 => by rw [z9] at hc5; exact absurd hc5 (by decide)) (by rw [kAns_12, hq12]; exact hm9)
        have hans : fR S3 3 (y (300 + (8 * gt + kk))) = some m9 := by rw [e1]; exact sR_s
        replace hm9 : MsgAt S3 m9 1 (nI gt) (nI kk) x3 (mGets (mHear g gt x3) gt kk x4) x5 (kNum n (mGets (mHear g gt x3) gt kk x4)) ((mHear g gt x3).2.2 1111) := by rw [e1]; exact hm9
        clear hC hF e1
        have hF := hF9
        have hC := hC9
        clear hC9 hF9
        refine lv_goto (tgt := 118) hx hb dX8_hearAsk_99 (by decide) ?_
        have hC : CR S3 y dE (mAnswer (mHear g gt x3) n gt kk x4 x5) c9 := ans_cr (gets_range hqw hqI hg hk ht).1 hC
        refine lv_aload_n hx hb dX8_hearAsk_118 rfl (lv_at hl 3 rfl) ?_
        refine lv_aload_n hx hb dX8_hearAsk_119 rfl (lv_at hl 0 rfl) ?_
        refine g_3 C hinX0 hW (hC.1.lay.ck (8 * gt + kk) (by omega)) hans l70 dX8_hearAsk_120 ?_
        refine k_callVv (As := [.ref m9]) (rest := []) C hml (c_X7_send (g := (mAnswer (mHear g gt x3) n gt kk x4 x5)) hC (MsgOk_of (mAnswer_m _ _ _ _ _ _) hqm) hm9) (cwV 1 hts gX8_hearAsk_X7_send rfl rfl rfl (by decide +kernel) ⟨by decide, by decide⟩) hW hS hB (hC.1.lay.k2).1 (pAt_7 (hC.1.lay.k2).2) rfl rfl hl.1 rfl (Nat.le_of_ble_eq_true rfl) dX8_hearAsk_123 ⟨Nat.le_of_ble_eq_true rfl, Nat.le_of_ble_eq_true rfl⟩ (fun S4 H locs hp9 hW hS => ?_)
        obtain ⟨f9, k9⟩ := hp9
        have hF9 := hF.tr f9
        have hC9 : CR S4 y dE (mSG (mAnswer (mHear g gt x3) n gt kk x4 x5) gt kk) c9 := sg_put (gets_range hqw hqI hg hk ht).1 hq12 k9
        clear hC hF
        have hC := hC9
        have hF := hF9
        refine lv_iconst (v := 1) hx hb dX8_hearAsk_126 (by decide) ?_
        exact k_zret C hr hlk hW hS hB ⟨c9, hF, (ask_put (Int32.not_lt.mpr c_13) (by rw [ha1, Int32.lt_iff_toInt_lt]; have e9 : (-1 : Int32).toInt = -1 := (by decide); omega) (gets_range hqw hqI hg hk ht).1 hC b9).1, (ask_put (Int32.not_lt.mpr c_13) (by rw [ha1, Int32.lt_iff_toInt_lt]; have e9 : (-1 : Int32).toInt = -1 := (by decide); omega) (gets_range hqw hqI hg hk ht).1 hC b9).2.1, p9, (ask_put (Int32.not_lt.mpr c_13) (by rw [ha1, Int32.lt_iff_toInt_lt]; have e9 : (-1 : Int32).toInt = -1 := (by decide); omega) (gets_range hqw hqI hg hk ht).1 hC b9).2.2.symm⟩ (by decide) (Nat.le_of_ble_eq_true rfl) (Nat.le_of_ble_eq_true rfl) dX8_hearAsk_127
      · refine lv_aload_n hx hb dX8_hearAsk_68 rfl (lv_at hl 0 rfl) ?_
        refine g_3 C hinX0 hW (hC.1.lay.ck (8 * gt + kk) (by omega)) ha2 l70 dX8_hearAsk_69 ?_
        refine lv_ifnull hx hb dX8_hearAsk_72 ?_
        refine lv_aload_n hx hb dX8_hearAsk_75 rfl (lv_at hl 2 rfl) ?_
        refine g_605 C hinX6 hW hM.1 l74 dX8_hearAsk_76 ?_
        refine top_i (show fI S 605 b = x5 from hM.2.2.2.2.2.2.1) ?_
        refine lv_aload_n hx hb dX8_hearAsk_79 rfl (lv_at hl 0 rfl) ?_
        refine g_3 C hinX0 hW (hC.1.lay.ck (8 * gt + kk) (by omega)) ha2 l70 dX8_hearAsk_80 ?_
        refine g_605 C hinX6 hW ha3.1 l74 dX8_hearAsk_83 ?_
        refine top_i (show fI S 605 mm = (mHear g gt x3).1 13 (8 * gt + kk) from ha3.2.2.2.2.2.2.1) ?_
        refine lv_icmp_le (tgt := 102) hx hb dX8_hearAsk_86 (by decide) (fun c_86 => ?_) (fun c_86 => ?_)
        · refine lv_aload_n hx hb dX8_hearAsk_102 rfl (lv_at hl 2 rfl) ?_
          refine g_605 C hinX6 hW hM.1 l74 dX8_hearAsk_103 ?_
          refine top_i (show fI S 605 b = x5 from hM.2.2.2.2.2.2.1) ?_
          refine lv_aload_n hx hb dX8_hearAsk_106 rfl (lv_at hl 0 rfl) ?_
          refine g_3 C hinX0 hW (hC.1.lay.ck (8 * gt + kk) (by omega)) ha2 l70 dX8_hearAsk_107 ?_
          refine g_605 C hinX6 hW ha3.1 l74 dX8_hearAsk_110 ?_
          refine top_i (show fI S 605 mm = (mHear g gt x3).1 13 (8 * gt + kk) from ha3.2.2.2.2.2.2.1) ?_
          refine lv_icmp_ge (tgt := 118) hx hb dX8_hearAsk_113 (by decide) (fun c_113 => ?_) (fun c_113 => ?_)
          · 
            refine lv_aload_n hx hb dX8_hearAsk_118 rfl (lv_at hl 3 rfl) ?_
            refine lv_aload_n hx hb dX8_hearAsk_119 rfl (lv_at hl 0 rfl) ?_
            refine g_3 C hinX0 hW (hC.1.lay.ck (8 * gt + kk) (by omega)) ha2 l70 dX8_hearAsk_120 ?_
            refine k_callVv (As := [.ref mm]) (rest := []) C hml (c_X7_send (g := (mHear g gt x3)) hC hqm ha3) (cwV 1 hts gX8_hearAsk_X7_send rfl rfl rfl (by decide +kernel) ⟨by decide, by decide⟩) hW hS hB (hC.1.lay.k2).1 (pAt_7 (hC.1.lay.k2).2) rfl rfl hl.1 rfl (Nat.le_of_ble_eq_true rfl) dX8_hearAsk_123 ⟨Nat.le_of_ble_eq_true rfl, Nat.le_of_ble_eq_true rfl⟩ (fun S5 H locs hp9 hW hS => ?_)
            obtain ⟨f9, k9⟩ := hp9
            have hF9 := hF.tr f9
            have hC9 : CR S5 y dE (mSG (mHear g gt x3) gt kk) c0 := by rw [mSG_if]; exact k9
            clear hC hF
            have hC := hC9
            have hF := hF9
            refine lv_iconst (v := 1) hx hb dX8_hearAsk_126 (by decide) ?_
            exact k_zret C hr hlk hW hS hB ⟨c0, hF, (ask_re (n := n) (tok := x4) (Int32.not_lt.mpr c_13) (Int32.not_lt.mpr c_113) (Int32.not_lt.mpr c_86) hC hqB).1, (ask_re (n := n) (tok := x4) (Int32.not_lt.mpr c_13) (Int32.not_lt.mpr c_113) (Int32.not_lt.mpr c_86) hC hqB).2.1, rfl, (ask_re (n := n) (tok := x4) (Int32.not_lt.mpr c_13) (Int32.not_lt.mpr c_113) (Int32.not_lt.mpr c_86) hC hqB).2.2.symm⟩ (by decide) (Nat.le_of_ble_eq_true rfl) (Nat.le_of_ble_eq_true rfl) dX8_hearAsk_127
          · refine lv_iconst (v := 0) hx hb dX8_hearAsk_116 (by decide) ?_
            exact k_zret C hr hlk hW hS hB ⟨c0, hF, (ask_low (n := n) (tok := x4) (Int32.not_lt.mpr c_13) (Int32.not_le.mp c_113) hC hqB).1, (ask_low (n := n) (tok := x4) (Int32.not_lt.mpr c_13) (Int32.not_le.mp c_113) hC hqB).2.1, rfl, (ask_low (n := n) (tok := x4) (Int32.not_lt.mpr c_13) (Int32.not_le.mp c_113) hC hqB).2.2.symm⟩ (by decide) (Nat.le_of_ble_eq_true rfl) (Nat.le_of_ble_eq_true rfl) dX8_hearAsk_117
        · refine lv_aload_n hx hb dX8_hearAsk_89 rfl (lv_at hl 0 rfl) ?_
          refine lv_aload_n hx hb dX8_hearAsk_90 rfl (lv_at hl 1 rfl) ?_
          refine lv_aload_n hx hb dX8_hearAsk_91 rfl (lv_at hl 2 rfl) ?_
          refine lv_aload_n hx hb dX8_hearAsk_92 rfl (lv_at hl 0 rfl) ?_
          refine k_callVq (As := [.ref b, .ref (y (300 + (8 * gt + kk)))]) (rest := [.ref (y (300 + (8 * gt + kk)))]) C hml (c_X8_answerTo (g := (mHear g gt x3)) hC hE hg hk (hn0 ⟨Int32.not_lt.mpr c_13, (Int32.not_le.mp c_86)⟩) hq1107 hqB hqI hqw ht hM) (cwV 2 hts gX8_hearAsk_X8_answerTo rfl rfl rfl (by decide +kernel) ⟨by decide, by decide⟩) hW hS hB (hC.1.lay.k1).1 (pAt_8 (hC.1.lay.k1).2) rfl rfl hl.1 rfl (Nat.le_of_ble_eq_true rfl) dX8_hearAsk_93 ⟨Nat.le_of_ble_eq_true rfl, Nat.le_of_ble_eq_true rfl⟩ (fun r9 S6 H locs hp9 hW hS => ?_)
          obtain ⟨m9, c9, e9, f9, k9, hm9, b9, p9⟩ := hp9
          subst e9
          have hF9 := hF.tr f9
          clear hC hF
          have hC := k9
          have hF := hF9
          refine p_3 C hinX0 hW hS (hC.1.lay.ck (8 * gt + kk) (by omega)) l70 dX8_hearAsk_96 (fun S7 H locs e1 hW hS => ?_)
          have hF9 : CF S S7 y := by rw [e1]; exact hF.sR (hC.1.lay.ck (8 * gt + kk) (by omega)) (by decide)
          have hC9 : CR S7 y dE (iI (iI (iI (iI (kAns (mHear g gt x3) n gt kk (mGets (mHear g gt x3) gt kk x4)) 13 (8 * gt + kk) x5) 15 (8 * gt + kk) (mGets (mHear g gt x3) gt kk x4)) 16 (8 * gt + kk) ((mHear g gt x3).2.2 1111)) 14 (8 * gt + kk) (kNum n (mGets (mHear g gt x3) gt kk x4))) c9 := by rw [e1]; exact hC.answer hg hk (cnt := x5) (fun z9 => by rw [z9] at hc5; exact absurd hc5 (by decide)) (by rw [kAns_12, hq12]; exact hm9)
          have hans : fR S7 3 (y (300 + (8 * gt + kk))) = some m9 := by rw [e1]; exact sR_s
          replace hm9 : MsgAt S7 m9 1 (nI gt) (nI kk) x3 (mGets (mHear g gt x3) gt kk x4) x5 (kNum n (mGets (mHear g gt x3) gt kk x4)) ((mHear g gt x3).2.2 1111) := by rw [e1]; exact hm9
          clear hC hF e1
          have hF := hF9
          have hC := hC9
          clear hC9 hF9
          refine lv_goto (tgt := 118) hx hb dX8_hearAsk_99 (by decide) ?_
          have hC : CR S7 y dE (mAnswer (mHear g gt x3) n gt kk x4 x5) c9 := ans_cr (gets_range hqw hqI hg hk ht).1 hC
          refine lv_aload_n hx hb dX8_hearAsk_118 rfl (lv_at hl 3 rfl) ?_
          refine lv_aload_n hx hb dX8_hearAsk_119 rfl (lv_at hl 0 rfl) ?_
          refine g_3 C hinX0 hW (hC.1.lay.ck (8 * gt + kk) (by omega)) hans l70 dX8_hearAsk_120 ?_
          refine k_callVv (As := [.ref m9]) (rest := []) C hml (c_X7_send (g := (mAnswer (mHear g gt x3) n gt kk x4 x5)) hC (MsgOk_of (mAnswer_m _ _ _ _ _ _) hqm) hm9) (cwV 1 hts gX8_hearAsk_X7_send rfl rfl rfl (by decide +kernel) ⟨by decide, by decide⟩) hW hS hB (hC.1.lay.k2).1 (pAt_7 (hC.1.lay.k2).2) rfl rfl hl.1 rfl (Nat.le_of_ble_eq_true rfl) dX8_hearAsk_123 ⟨Nat.le_of_ble_eq_true rfl, Nat.le_of_ble_eq_true rfl⟩ (fun S8 H locs hp9 hW hS => ?_)
          obtain ⟨f9, k9⟩ := hp9
          have hF9 := hF.tr f9
          have hC9 : CR S8 y dE (mSG (mAnswer (mHear g gt x3) n gt kk x4 x5) gt kk) c9 := sg_put (gets_range hqw hqI hg hk ht).1 hq12 k9
          clear hC hF
          have hC := hC9
          have hF := hF9
          refine lv_iconst (v := 1) hx hb dX8_hearAsk_126 (by decide) ?_
          exact k_zret C hr hlk hW hS hB ⟨c9, hF, (ask_put (Int32.not_lt.mpr c_13) (Int32.not_le.mp c_86) (gets_range hqw hqI hg hk ht).1 hC b9).1, (ask_put (Int32.not_lt.mpr c_13) (Int32.not_le.mp c_86) (gets_range hqw hqI hg hk ht).1 hC b9).2.1, p9, (ask_put (Int32.not_lt.mpr c_13) (Int32.not_le.mp c_86) (gets_range hqw hqI hg hk ht).1 hC b9).2.2.symm⟩ (by decide) (Nat.le_of_ble_eq_true rfl) (Nat.le_of_ble_eq_true rfl) dX8_hearAsk_127
    · refine lv_aload_n hx hb dX8_hearAsk_34 rfl (lv_at hl 0 rfl) ?_
      refine g_803 C hinX8 hW hC.1.lay.k1 hC.1.lay.r803 l30 dX8_hearAsk_35 ?_
      refine lv_aload_n hx hb dX8_hearAsk_38 rfl (lv_at hl 1 rfl) ?_
      refine g_601 C hinX6 hW hM.1 l57 dX8_hearAsk_39 ?_
      refine top_i (show fI S 601 b = nI gt from hM.2.2.1) ?_
      refine lv_aload_n hx hb dX8_hearAsk_42 rfl (lv_at hl 1 rfl) ?_
      refine g_603 C hinX6 hW hM.1 l52 dX8_hearAsk_43 ?_
      refine top_i (show fI S 603 b = x3 from hM.2.2.2.2.1) ?_
      refine a_Istore C hW hS (j := gt) hC.1.lay.k7 hC.1.lay.n7 rfl (by omega) (by omega) dX8_hearAsk_46 (fun S9 H locs e1 hW hS => ?_)
      replace hM : MsgAt S9 b x0 (nI gt) (nI kk) x3 x4 x5 x6 x7 := by rw [e1]; exact hM
      have hLy1 : Lay S9 y := by rw [e1]; exact hC.1.lay
      have hF1 : CF S S9 y := by rw [e1]; exact hF.t7
      refine lv_aload_n hx hb dX8_hearAsk_47 rfl (lv_at hl 0 rfl) ?_
      refine lv_aload_n hx hb dX8_hearAsk_48 rfl (lv_at hl 1 rfl) ?_
      refine g_601 C hinX6 hW hM.1 l57 dX8_hearAsk_49 ?_
      refine top_i (show fI S9 601 b = nI gt from hM.2.2.1) ?_
      refine k_callVv (As := [.int (nI gt)]) (rest := []) C hml (c_X8_forgetAnswers hLy1 hg) (cwV 1 hts gX8_hearAsk_X8_forgetAnswers rfl rfl rfl (by decide +kernel) ⟨by decide, by decide⟩) hW hS hB (hLy1.k1).1 (pAt_8 (hLy1.k1).2) rfl rfl hl.1 rfl (Nat.le_of_ble_eq_true rfl) dX8_hearAsk_52 ⟨Nat.le_of_ble_eq_true rfl, Nat.le_of_ble_eq_true rfl⟩ (fun S10 H locs hp9 hW hS => ?_)
      have f9 : CF S9 S10 y := by rw [hp9]; exact frg_cf hLy1 hg 8 (Nat.le_refl _)
      replace hM : MsgAt S10 b x0 (nI gt) (nI kk) x3 x4 x5 x6 x7 := CF.msg f9 hLy1.k7 hM
      have hC9 : CR S10 y dE (mHear g gt x3) c0 := by rw [hp9, e1, mHear, if_pos (Int32.not_le.mp c_31)]; exact hear_cr hC hg
      have hF9 := hF1.tr f9
      clear hC hF
      have hC := hC9
      have hF := hF9
      have hq12 : (mHear g gt x3).1 12 gt = x3 := by rw [mHear, if_pos (Int32.not_le.mp c_31), mForget_j _ _ (by decide)]; exact iI_s
      have hq1107 : (mHear g gt x3).2.2 1107 = nI n := by rw [mHear_2]; exact hnl
      have hqB : CanB c0 (mHear g gt x3) n := hCB.same (mHear_j _ _ _ (by decide) (by decide)) (mHear_j _ _ _ (by decide) (by decide))
      have hqI : BInv (mHear g gt x3) n := hI.same (mHear_j _ _ _ (by decide) (by decide)) (mHear_j _ _ _ (by decide) (by decide)) (by rw [mHear_2]) (mHear_j _ _ _ (by decide) (by decide)) (mHear_j _ _ _ (by decide) (by decide))
      have hqw : WOk (mHear g gt x3) := by unfold WOk; rw [mHear_j _ _ _ (by decide) (by decide)]; exact hw9
      have hqm : MsgOk (mHear g gt x3) := MsgOk_of (by rw [mHear_2]) hm
      refine lv_aload_n hx hb dX8_hearAsk_55 rfl (lv_at hl 0 rfl) ?_
      refine lv_aload_n hx hb dX8_hearAsk_56 rfl (lv_at hl 1 rfl) ?_
      refine g_601 C hinX6 hW hM.1 l57 dX8_hearAsk_57 ?_
      refine top_i (show fI S10 601 b = nI gt from hM.2.2.1) ?_
      refine lv_aload_n hx hb dX8_hearAsk_60 rfl (lv_at hl 1 rfl) ?_
      refine g_602 C hinX6 hW hM.1 l63 dX8_hearAsk_61 ?_
      refine top_i (show fI S10 602 b = nI kk from hM.2.2.2.1) ?_
      refine k_callVq (As := [.int (nI gt), .int (nI kk)]) (rest := []) C hml (c_X8_accountOf hC.1.lay (by omega) (by omega)) (cwV 2 hts gX8_hearAsk_X8_accountOf rfl rfl rfl (by decide +kernel) ⟨by decide, by decide⟩) hW hS hB (hC.1.lay.k1).1 (pAt_8 (hC.1.lay.k1).2) rfl rfl hl.1 rfl (Nat.le_of_ble_eq_true rfl) dX8_hearAsk_64 ⟨Nat.le_of_ble_eq_true rfl, Nat.le_of_ble_eq_true rfl⟩ (fun r9 S11 H locs hp9 hW hS => ?_)
      obtain ⟨e8, e9⟩ := hp9
      rw [e8] at hW
      subst e9
      refine lv_astore_n (lv' := [(3, .ref (y (300 + (8 * gt + kk)))), (0, .ref (y 1)), (1, .ref b), (2, .ref (y 2))]) hx hb dX8_hearAsk_67 rfl hl (by decide) rfl (fun ls hl => ?_)
      rcases hC.1.a3 gt kk hg hk with ⟨ha1, ha2⟩ | ⟨ha1, mm, ha2, ha3⟩
      · refine lv_aload_n hx hb dX8_hearAsk_68 rfl (lv_at hl 0 rfl) ?_
        refine g_3n C hinX0 hW (hC.1.lay.ck (8 * gt + kk) (by omega)) ha2 l70 dX8_hearAsk_69 ?_
        refine lv_ifnullN (tgt := 89) hx hb dX8_hearAsk_72 (by decide) ?_
        refine lv_aload_n hx hb dX8_hearAsk_89 rfl (lv_at hl 0 rfl) ?_
        refine lv_aload_n hx hb dX8_hearAsk_90 rfl (lv_at hl 1 rfl) ?_
        refine lv_aload_n hx hb dX8_hearAsk_91 rfl (lv_at hl 2 rfl) ?_
        refine lv_aload_n hx hb dX8_hearAsk_92 rfl (lv_at hl 0 rfl) ?_
        refine k_callVq (As := [.ref b, .ref (y (300 + (8 * gt + kk)))]) (rest := [.ref (y (300 + (8 * gt + kk)))]) C hml (c_X8_answerTo (g := (mHear g gt x3)) hC hE hg hk (hn0 ⟨Int32.not_lt.mpr c_13, (by rw [ha1, Int32.lt_iff_toInt_lt]; have e9 : (-1 : Int32).toInt = -1 := (by decide); omega)⟩) hq1107 hqB hqI hqw ht hM) (cwV 2 hts gX8_hearAsk_X8_answerTo rfl rfl rfl (by decide +kernel) ⟨by decide, by decide⟩) hW hS hB (hC.1.lay.k1).1 (pAt_8 (hC.1.lay.k1).2) rfl rfl hl.1 rfl (Nat.le_of_ble_eq_true rfl) dX8_hearAsk_93 ⟨Nat.le_of_ble_eq_true rfl, Nat.le_of_ble_eq_true rfl⟩ (fun r9 S12 H locs hp9 hW hS => ?_)
        obtain ⟨m9, c9, e9, f9, k9, hm9, b9, p9⟩ := hp9
        subst e9
        have hF9 := hF.tr f9
        clear hC hF
        have hC := k9
        have hF := hF9
        refine p_3 C hinX0 hW hS (hC.1.lay.ck (8 * gt + kk) (by omega)) l70 dX8_hearAsk_96 (fun S13 H locs e1 hW hS => ?_)
        have hF9 : CF S S13 y := by rw [e1]; exact hF.sR (hC.1.lay.ck (8 * gt + kk) (by omega)) (by decide)
        have hC9 : CR S13 y dE (iI (iI (iI (iI (kAns (mHear g gt x3) n gt kk (mGets (mHear g gt x3) gt kk x4)) 13 (8 * gt + kk) x5) 15 (8 * gt + kk) (mGets (mHear g gt x3) gt kk x4)) 16 (8 * gt + kk) ((mHear g gt x3).2.2 1111)) 14 (8 * gt + kk) (kNum n (mGets (mHear g gt x3) gt kk x4))) c9 := by rw [e1]; exact hC.answer hg hk (cnt := x5) (fun z9 => by rw [z9] at hc5; exact absurd hc5 (by decide)) (by rw [kAns_12, hq12]; exact hm9)
        have hans : fR S13 3 (y (300 + (8 * gt + kk))) = some m9 := by rw [e1]; exact sR_s
        replace hm9 : MsgAt S13 m9 1 (nI gt) (nI kk) x3 (mGets (mHear g gt x3) gt kk x4) x5 (kNum n (mGets (mHear g gt x3) gt kk x4)) ((mHear g gt x3).2.2 1111) := by rw [e1]; exact hm9
        clear hC hF e1
        have hF := hF9
        have hC := hC9
        clear hC9 hF9
        refine lv_goto (tgt := 118) hx hb dX8_hearAsk_99 (by decide) ?_
        have hC : CR S13 y dE (mAnswer (mHear g gt x3) n gt kk x4 x5) c9 := ans_cr (gets_range hqw hqI hg hk ht).1 hC
        refine lv_aload_n hx hb dX8_hearAsk_118 rfl (lv_at hl 3 rfl) ?_
        refine lv_aload_n hx hb dX8_hearAsk_119 rfl (lv_at hl 0 rfl) ?_
        refine g_3 C hinX0 hW (hC.1.lay.ck (8 * gt + kk) (by omega)) hans l70 dX8_hearAsk_120 ?_
        refine k_callVv (As := [.ref m9]) (rest := []) C hml (c_X7_send (g := (mAnswer (mHear g gt x3) n gt kk x4 x5)) hC (MsgOk_of (mAnswer_m _ _ _ _ _ _) hqm) hm9) (cwV 1 hts gX8_hearAsk_X7_send rfl rfl rfl (by decide +kernel) ⟨by decide, by decide⟩) hW hS hB (hC.1.lay.k2).1 (pAt_7 (hC.1.lay.k2).2) rfl rfl hl.1 rfl (Nat.le_of_ble_eq_true rfl) dX8_hearAsk_123 ⟨Nat.le_of_ble_eq_true rfl, Nat.le_of_ble_eq_true rfl⟩ (fun S14 H locs hp9 hW hS => ?_)
        obtain ⟨f9, k9⟩ := hp9
        have hF9 := hF.tr f9
        have hC9 : CR S14 y dE (mSG (mAnswer (mHear g gt x3) n gt kk x4 x5) gt kk) c9 := sg_put (gets_range hqw hqI hg hk ht).1 hq12 k9
        clear hC hF
        have hC := hC9
        have hF := hF9
        refine lv_iconst (v := 1) hx hb dX8_hearAsk_126 (by decide) ?_
        exact k_zret C hr hlk hW hS hB ⟨c9, hF, (ask_put (Int32.not_lt.mpr c_13) (by rw [ha1, Int32.lt_iff_toInt_lt]; have e9 : (-1 : Int32).toInt = -1 := (by decide); omega) (gets_range hqw hqI hg hk ht).1 hC b9).1, (ask_put (Int32.not_lt.mpr c_13) (by rw [ha1, Int32.lt_iff_toInt_lt]; have e9 : (-1 : Int32).toInt = -1 := (by decide); omega) (gets_range hqw hqI hg hk ht).1 hC b9).2.1, p9, (ask_put (Int32.not_lt.mpr c_13) (by rw [ha1, Int32.lt_iff_toInt_lt]; have e9 : (-1 : Int32).toInt = -1 := (by decide); omega) (gets_range hqw hqI hg hk ht).1 hC b9).2.2.symm⟩ (by decide) (Nat.le_of_ble_eq_true rfl) (Nat.le_of_ble_eq_true rfl) dX8_hearAsk_127
      · refine lv_aload_n hx hb dX8_hearAsk_68 rfl (lv_at hl 0 rfl) ?_
        refine g_3 C hinX0 hW (hC.1.lay.ck (8 * gt + kk) (by omega)) ha2 l70 dX8_hearAsk_69 ?_
        refine lv_ifnull hx hb dX8_hearAsk_72 ?_
        refine lv_aload_n hx hb dX8_hearAsk_75 rfl (lv_at hl 2 rfl) ?_
        refine g_605 C hinX6 hW hM.1 l74 dX8_hearAsk_76 ?_
        refine top_i (show fI S10 605 b = x5 from hM.2.2.2.2.2.2.1) ?_
        refine lv_aload_n hx hb dX8_hearAsk_79 rfl (lv_at hl 0 rfl) ?_
        refine g_3 C hinX0 hW (hC.1.lay.ck (8 * gt + kk) (by omega)) ha2 l70 dX8_hearAsk_80 ?_
        refine g_605 C hinX6 hW ha3.1 l74 dX8_hearAsk_83 ?_
        refine top_i (show fI S10 605 mm = (mHear g gt x3).1 13 (8 * gt + kk) from ha3.2.2.2.2.2.2.1) ?_
        refine lv_icmp_le (tgt := 102) hx hb dX8_hearAsk_86 (by decide) (fun c_86 => ?_) (fun c_86 => ?_)
        · refine lv_aload_n hx hb dX8_hearAsk_102 rfl (lv_at hl 2 rfl) ?_
          refine g_605 C hinX6 hW hM.1 l74 dX8_hearAsk_103 ?_
          refine top_i (show fI S10 605 b = x5 from hM.2.2.2.2.2.2.1) ?_
          refine lv_aload_n hx hb dX8_hearAsk_106 rfl (lv_at hl 0 rfl) ?_
          refine g_3 C hinX0 hW (hC.1.lay.ck (8 * gt + kk) (by omega)) ha2 l70 dX8_hearAsk_107 ?_
          refine g_605 C hinX6 hW ha3.1 l74 dX8_hearAsk_110 ?_
          refine top_i (show fI S10 605 mm = (mHear g gt x3).1 13 (8 * gt + kk) from ha3.2.2.2.2.2.2.1) ?_
          refine lv_icmp_ge (tgt := 118) hx hb dX8_hearAsk_113 (by decide) (fun c_113 => ?_) (fun c_113 => ?_)
          · 
            refine lv_aload_n hx hb dX8_hearAsk_118 rfl (lv_at hl 3 rfl) ?_
            refine lv_aload_n hx hb dX8_hearAsk_119 rfl (lv_at hl 0 rfl) ?_
            refine g_3 C hinX0 hW (hC.1.lay.ck (8 * gt + kk) (by omega)) ha2 l70 dX8_hearAsk_120 ?_
            refine k_callVv (As := [.ref mm]) (rest := []) C hml (c_X7_send (g := (mHear g gt x3)) hC hqm ha3) (cwV 1 hts gX8_hearAsk_X7_send rfl rfl rfl (by decide +kernel) ⟨by decide, by decide⟩) hW hS hB (hC.1.lay.k2).1 (pAt_7 (hC.1.lay.k2).2) rfl rfl hl.1 rfl (Nat.le_of_ble_eq_true rfl) dX8_hearAsk_123 ⟨Nat.le_of_ble_eq_true rfl, Nat.le_of_ble_eq_true rfl⟩ (fun S15 H locs hp9 hW hS => ?_)
            obtain ⟨f9, k9⟩ := hp9
            have hF9 := hF.tr f9
            have hC9 : CR S15 y dE (mSG (mHear g gt x3) gt kk) c0 := by rw [mSG_if]; exact k9
            clear hC hF
            have hC := hC9
            have hF := hF9
            refine lv_iconst (v := 1) hx hb dX8_hearAsk_126 (by decide) ?_
            exact k_zret C hr hlk hW hS hB ⟨c0, hF, (ask_re (n := n) (tok := x4) (Int32.not_lt.mpr c_13) (Int32.not_lt.mpr c_113) (Int32.not_lt.mpr c_86) hC hqB).1, (ask_re (n := n) (tok := x4) (Int32.not_lt.mpr c_13) (Int32.not_lt.mpr c_113) (Int32.not_lt.mpr c_86) hC hqB).2.1, rfl, (ask_re (n := n) (tok := x4) (Int32.not_lt.mpr c_13) (Int32.not_lt.mpr c_113) (Int32.not_lt.mpr c_86) hC hqB).2.2.symm⟩ (by decide) (Nat.le_of_ble_eq_true rfl) (Nat.le_of_ble_eq_true rfl) dX8_hearAsk_127
          · refine lv_iconst (v := 0) hx hb dX8_hearAsk_116 (by decide) ?_
            exact k_zret C hr hlk hW hS hB ⟨c0, hF, (ask_low (n := n) (tok := x4) (Int32.not_lt.mpr c_13) (Int32.not_le.mp c_113) hC hqB).1, (ask_low (n := n) (tok := x4) (Int32.not_lt.mpr c_13) (Int32.not_le.mp c_113) hC hqB).2.1, rfl, (ask_low (n := n) (tok := x4) (Int32.not_lt.mpr c_13) (Int32.not_le.mp c_113) hC hqB).2.2.symm⟩ (by decide) (Nat.le_of_ble_eq_true rfl) (Nat.le_of_ble_eq_true rfl) dX8_hearAsk_117
        · refine lv_aload_n hx hb dX8_hearAsk_89 rfl (lv_at hl 0 rfl) ?_
          refine lv_aload_n hx hb dX8_hearAsk_90 rfl (lv_at hl 1 rfl) ?_
          refine lv_aload_n hx hb dX8_hearAsk_91 rfl (lv_at hl 2 rfl) ?_
          refine lv_aload_n hx hb dX8_hearAsk_92 rfl (lv_at hl 0 rfl) ?_
          refine k_callVq (As := [.ref b, .ref (y (300 + (8 * gt + kk)))]) (rest := [.ref (y (300 + (8 * gt + kk)))]) C hml (c_X8_answerTo (g := (mHear g gt x3)) hC hE hg hk (hn0 ⟨Int32.not_lt.mpr c_13, (Int32.not_le.mp c_86)⟩) hq1107 hqB hqI hqw ht hM) (cwV 2 hts gX8_hearAsk_X8_answerTo rfl rfl rfl (by decide +kernel) ⟨by decide, by decide⟩) hW hS hB (hC.1.lay.k1).1 (pAt_8 (hC.1.lay.k1).2) rfl rfl hl.1 rfl (Nat.le_of_ble_eq_true rfl) dX8_hearAsk_93 ⟨Nat.le_of_ble_eq_true rfl, Nat.le_of_ble_eq_true rfl⟩ (fun r9 S16 H locs hp9 hW hS => ?_)
          obtain ⟨m9, c9, e9, f9, k9, hm9, b9, p9⟩ := hp9
          subst e9
          have hF9 := hF.tr f9
          clear hC hF
          have hC := k9
          have hF := hF9
          refine p_3 C hinX0 hW hS (hC.1.lay.ck (8 * gt + kk) (by omega)) l70 dX8_hearAsk_96 (fun S17 H locs e1 hW hS => ?_)
          have hF9 : CF S S17 y := by rw [e1]; exact hF.sR (hC.1.lay.ck (8 * gt + kk) (by omega)) (by decide)
          have hC9 : CR S17 y dE (iI (iI (iI (iI (kAns (mHear g gt x3) n gt kk (mGets (mHear g gt x3) gt kk x4)) 13 (8 * gt + kk) x5) 15 (8 * gt + kk) (mGets (mHear g gt x3) gt kk x4)) 16 (8 * gt + kk) ((mHear g gt x3).2.2 1111)) 14 (8 * gt + kk) (kNum n (mGets (mHear g gt x3) gt kk x4))) c9 := by rw [e1]; exact hC.answer hg hk (cnt := x5) (fun z9 => by rw [z9] at hc5; exact absurd hc5 (by decide)) (by rw [kAns_12, hq12]; exact hm9)
          have hans : fR S17 3 (y (300 + (8 * gt + kk))) = some m9 := by rw [e1]; exact sR_s
          replace hm9 : MsgAt S17 m9 1 (nI gt) (nI kk) x3 (mGets (mHear g gt x3) gt kk x4) x5 (kNum n (mGets (mHear g gt x3) gt kk x4)) ((mHear g gt x3).2.2 1111) := by rw [e1]; exact hm9
          clear hC hF e1
          have hF := hF9
          have hC := hC9
          clear hC9 hF9
          refine lv_goto (tgt := 118) hx hb dX8_hearAsk_99 (by decide) ?_
          have hC : CR S17 y dE (mAnswer (mHear g gt x3) n gt kk x4 x5) c9 := ans_cr (gets_range hqw hqI hg hk ht).1 hC
          refine lv_aload_n hx hb dX8_hearAsk_118 rfl (lv_at hl 3 rfl) ?_
          refine lv_aload_n hx hb dX8_hearAsk_119 rfl (lv_at hl 0 rfl) ?_
          refine g_3 C hinX0 hW (hC.1.lay.ck (8 * gt + kk) (by omega)) hans l70 dX8_hearAsk_120 ?_
          refine k_callVv (As := [.ref m9]) (rest := []) C hml (c_X7_send (g := (mAnswer (mHear g gt x3) n gt kk x4 x5)) hC (MsgOk_of (mAnswer_m _ _ _ _ _ _) hqm) hm9) (cwV 1 hts gX8_hearAsk_X7_send rfl rfl rfl (by decide +kernel) ⟨by decide, by decide⟩) hW hS hB (hC.1.lay.k2).1 (pAt_7 (hC.1.lay.k2).2) rfl rfl hl.1 rfl (Nat.le_of_ble_eq_true rfl) dX8_hearAsk_123 ⟨Nat.le_of_ble_eq_true rfl, Nat.le_of_ble_eq_true rfl⟩ (fun S18 H locs hp9 hW hS => ?_)
          obtain ⟨f9, k9⟩ := hp9
          have hF9 := hF.tr f9
          have hC9 : CR S18 y dE (mSG (mAnswer (mHear g gt x3) n gt kk x4 x5) gt kk) c9 := sg_put (gets_range hqw hqI hg hk ht).1 hq12 k9
          clear hC hF
          have hC := hC9
          have hF := hF9
          refine lv_iconst (v := 1) hx hb dX8_hearAsk_126 (by decide) ?_
          exact k_zret C hr hlk hW hS hB ⟨c9, hF, (ask_put (Int32.not_lt.mpr c_13) (Int32.not_le.mp c_86) (gets_range hqw hqI hg hk ht).1 hC b9).1, (ask_put (Int32.not_lt.mpr c_13) (Int32.not_le.mp c_86) (gets_range hqw hqI hg hk ht).1 hC b9).2.1, p9, (ask_put (Int32.not_lt.mpr c_13) (Int32.not_le.mp c_86) (gets_range hqw hqI hg hk ht).1 hC b9).2.2.symm⟩ (by decide) (Nat.le_of_ble_eq_true rfl) (Nat.le_of_ble_eq_true rfl) dX8_hearAsk_127
  · refine lv_iconst (v := 0) hx hb dX8_hearAsk_16 (by decide) ?_
    exact k_zret C hr hlk hW hS hB ⟨c0, hF, by rw [mAsks_a (Int32.not_le.mp c_13)]; exact hC, by rw [mAsks_a (Int32.not_le.mp c_13), mN_o (fun z9 => z9.1 (Int32.not_le.mp c_13))]; exact hCB, rfl, by rw [mAsks_a (Int32.not_le.mp c_13)]⟩ (by decide) (Nat.le_of_ble_eq_true rfl) (Nat.le_of_ble_eq_true rfl) dX8_hearAsk_17
set_option maxRecDepth 100000 in
set_option maxHeartbeats 1000000 in
theorem c_X8_hearReturn {l : Launch} {D : va_G} {cy : Nat → ClassId} {B : Nat} {s0 : State} {S : PS} {y : Nat → Nat} {dE mi : Nat} {g : MS} {c0 : CS} {gt kk n : Nat} {b h : Nat} {x0 x3 x4 x5 x7 : Int32} (hC : CR S y dE g c0) (hE : EnvC dE mi B s0) (hg : gt < 6) (hk : kk < 8) (hn3 : n ≤ 300) (hCB : CanB c0 g n) (hI : BInv g n) (hh9 : h < n) (hkey : g.1 8 h = nI kk) (ht : 0 ≤ x4.toInt) (hM : MsgAt S b x0 (nI gt) (nI kk) x3 x4 x5 (nI h) x7) : KI l yX8_hearReturn wsX8_hearReturn ({ frames := 5, cells := 0, slots := 0, locals := 150 }) D cy B s0 [.ref (y 1), .ref b] S (fun r S2 => ∃ c2, CF S S2 y ∧ CR S2 y dE (mRet g n gt x4 x3 h kk).1 c2 ∧ CanB c2 (mRet g n gt x4 x3 h kk).1 n ∧ cP c2 = cP c0 ∧ r = (mRet g n gt x4 x3 h kk).2) 0 0 := by
  refine k_body (own := RX8) (cc := cX8_hearReturn) (maxL := 2) (ret := (some .boolean)) rfl (by decide) rfl (Nat.le_of_ble_eq_true rfl) ?_
  intro p e s m below meth c C hml hr hlk hnm hB hW ls hl
  obtain ⟨hx, hb, hts, hown, hK, hEn⟩ := id C
  have hS : va_S (Aw B) s.heap s.heap [] := va_S.rf
  have hinX6 : ∀ w ∈ wsX60, w ∈ wsX8_hearReturn := by decide +kernel
  have hinX8 : ∀ w ∈ wsX80, w ∈ wsX8_hearReturn := by decide +kernel
  have l20 : Cond.fieldLink RX8 20 "LeaseGates$Root" "buckets" "[LLeaseGates$Bucket;" ∈ wsX8_hearReturn := by decide +kernel
  have l30 : Cond.fieldLink RX8 30 "LeaseGates$Root" "births" "[I" ∈ wsX8_hearReturn := by decide +kernel
  have l52 : Cond.fieldLink RX8 52 "LeaseGates$Message" "birth" "I" ∈ wsX8_hearReturn := by decide +kernel
  have l57 : Cond.fieldLink RX8 57 "LeaseGates$Message" "gate" "I" ∈ wsX8_hearReturn := by decide +kernel
  have l63 : Cond.fieldLink RX8 63 "LeaseGates$Message" "key" "I" ∈ wsX8_hearReturn := by decide +kernel
  have l97 : Cond.fieldLink RX8 97 "LeaseGates$Message" "tokens" "I" ∈ wsX8_hearReturn := by decide +kernel
  have l121 : Cond.fieldLink RX8 121 "LeaseGates$Message" "loan" "I" ∈ wsX8_hearReturn := by decide +kernel
  have hl : lv_has ls 2 [(0, .ref (y 1)), (1, .ref b)] := hl
  have hF : CF S S y := CF.rf
  refine lv_aload_n hx hb dX8_hearReturn_0 rfl (lv_at hl 1 rfl) ?_
  refine g_603 C hinX6 hW hM.1 l52 dX8_hearReturn_1 ?_
  refine top_i (show fI S 603 b = x3 from hM.2.2.2.2.1) ?_
  refine lv_aload_n hx hb dX8_hearReturn_4 rfl (lv_at hl 0 rfl) ?_
  refine g_803 C hinX8 hW hC.1.lay.k1 hC.1.lay.r803 l30 dX8_hearReturn_5 ?_
  refine lv_aload_n hx hb dX8_hearReturn_8 rfl (lv_at hl 1 rfl) ?_
  refine g_601 C hinX6 hW hM.1 l57 dX8_hearReturn_9 ?_
  refine top_i (show fI S 601 b = nI gt from hM.2.2.1) ?_
  refine a_Iload C hW (j := gt) hC.1.lay.k7 hC.1.lay.n7 rfl (by omega) (by omega) dX8_hearReturn_12 ?_
  refine top_i (show aI S (y 7) gt = g.1 12 gt from hC.1.hb gt (by omega)) ?_
  refine lv_icmp_lt (tgt := 43) hx hb dX8_hearReturn_13 (by decide) (fun c_13 => ?_) (fun c_13 => ?_)
  · refine lv_iconst (v := 0) hx hb dX8_hearReturn_43 (by decide) ?_
    exact k_zret C hr hlk hW hS hB ⟨c0, hF, by rw [mRet_kBring, if_pos c_13]; exact hC, by rw [mRet_kBring, if_pos c_13]; exact hCB, rfl, by rw [mRet_kBring, if_pos c_13]⟩ (by decide) (Nat.le_refl _) (Nat.le_refl _) dX8_hearReturn_44
  · refine lv_aload_n hx hb dX8_hearReturn_16 rfl (lv_at hl 0 rfl) ?_
    refine g_801 C hinX8 hW hC.1.lay.k1 hC.1.lay.r801 l20 dX8_hearReturn_17 ?_
    refine lv_aload_n hx hb dX8_hearReturn_20 rfl (lv_at hl 1 rfl) ?_
    refine g_602 C hinX6 hW hM.1 l63 dX8_hearReturn_21 ?_
    refine top_i (show fI S 602 b = nI kk from hM.2.2.2.1) ?_
    refine a_Bucketload C hW (j := kk) hC.1.lay.k5 hC.1.lay.n5 rfl (by omega) (by omega) (hC.1.lay.ba kk (by omega)) dX8_hearReturn_24 ?_
    refine lv_aload_n hx hb dX8_hearReturn_25 rfl (lv_at hl 1 rfl) ?_
    refine g_606 C hinX6 hW hM.1 l121 dX8_hearReturn_26 ?_
    refine top_i (show fI S 606 b = nI h from hM.2.2.2.2.2.2.2.1) ?_
    refine lv_aload_n hx hb dX8_hearReturn_29 rfl (lv_at hl 1 rfl) ?_
    refine g_604 C hinX6 hW hM.1 l97 dX8_hearReturn_30 ?_
    refine top_i (show fI S 604 b = x4 from hM.2.2.2.2.2.1) ?_
    refine k_callVi (As := [.int (nI h), .int x4]) (rest := []) C hml (c_X1_bringBack (L := cQl c0 kk) hC hE hk hn3 hCB hI rfl hh9 hkey ht) (cwV 2 hts gX8_hearReturn_X1_bringBack rfl rfl rfl (by decide +kernel) ⟨by decide, by decide⟩) hW hS hB ((hC.1.lay.bk kk (by omega))).1 (pAt_1 ((hC.1.lay.bk kk (by omega))).2) rfl rfl hl.1 rfl (Nat.le_of_ble_eq_true rfl) dX8_hearReturn_33 ⟨Nat.le_of_ble_eq_true rfl, Nat.le_of_ble_eq_true rfl⟩ (fun r9 S1 H locs hp9 hW hS => ?_)
    obtain ⟨c9, f9, k9, b9, p9, e9⟩ := hp9
    subst e9
    refine lv_if_eq (tgt := 43) hx hb dX8_hearReturn_36 (by decide) (fun c_36 => ?_) (fun c_36 => ?_)
    · refine lv_iconst (v := 0) hx hb dX8_hearReturn_43 (by decide) ?_
      exact k_zret C hr hlk hW hS hB ⟨c9, f9, by rw [mRet_kBring, if_neg c_13]; exact k9, by rw [mRet_kBring, if_neg c_13]; exact b9, p9, by rw [mRet_kBring, if_neg c_13]; exact c_36.symm⟩ (by decide) (Nat.le_refl _) (Nat.le_refl _) dX8_hearReturn_44
    · refine lv_iconst (v := 1) hx hb dX8_hearReturn_39 (by decide) ?_
      refine lv_goto (tgt := 44) hx hb dX8_hearReturn_40 (by decide) ?_
      exact k_zret C hr hlk hW hS hB ⟨c9, f9, by rw [mRet_kBring, if_neg c_13]; exact k9, by rw [mRet_kBring, if_neg c_13]; exact b9, p9, by rw [mRet_kBring, if_neg c_13]; exact ((kBring_z g n kk h x4).resolve_left c_36).symm⟩ (by decide) (Nat.le_refl _) (Nat.le_refl _) dX8_hearReturn_44
set_option maxRecDepth 100000 in
set_option maxHeartbeats 1000000 in
theorem c_X8_advance {l : Launch} {D : va_G} {cy : Nat → ClassId} {B : Nat} {s0 : State} {S : PS} {y : Nat → Nat} {dE mi : Nat} {g : MS} {c0 : CS} {n : Nat} {x : Int32} (hC : CR S y dE g c0) (hE : EnvC dE mi B s0) (hn3 : n ≤ 300) (hCB0 : CanB c0 g n) (hI : BInv g n) (hat : 0 ≤ (mClk g 6).toInt ∧ (mClk g 6).toInt ≤ (mClk (iL g 1 6 (g.2.1 1 6 + x.toInt64 * (g.1 2 6).toInt64)) 6).toInt) (hend : ∀ k, k < 8 → ∀ h, h ∈ lsB g k n → (mClk g 6).toInt < (g.1 10 h).toInt) : KV l yX8_advance wsX8_advance ({ frames := 5, cells := 0, slots := 0, locals := 153 }) D cy B s0 [.ref (y 1), .int x] S (fun S2 => ∃ c2, CF S S2 y ∧ CR S2 y dE (kPs (iL g 1 6 (g.2.1 1 6 + x.toInt64 * (g.1 2 6).toInt64)) n (mClk g 6) (mClk (iL g 1 6 (g.2.1 1 6 + x.toInt64 * (g.1 2 6).toInt64)) 6) 8) c2 ∧ CanB c2 (kPs (iL g 1 6 (g.2.1 1 6 + x.toInt64 * (g.1 2 6).toInt64)) n (mClk g 6) (mClk (iL g 1 6 (g.2.1 1 6 + x.toInt64 * (g.1 2 6).toInt64)) 6) 8) n ∧ cP c2 = cP c0) 0 0 := by
  refine k_body (own := RX8) (cc := cX8_advance) (maxL := 4) (ret := none) rfl (by decide) rfl (Nat.le_of_ble_eq_true rfl) ?_
  intro p e s m below meth c C hml hr hlk hnm hB hW ls hl
  obtain ⟨hx, hb, hts, hown, hK, hEn⟩ := id C
  have hS : va_S (Aw B) s.heap s.heap [] := va_S.rf
  have hinX8 : ∀ w ∈ wsX80, w ∈ wsX8_advance := by decide +kernel
  have l12 : Cond.fieldLink RX8 12 "LeaseGates$Root" "ticker" "LLeaseGates$Ticker;" ∈ wsX8_advance := by decide +kernel
  have l20 : Cond.fieldLink RX8 20 "LeaseGates$Root" "buckets" "[LLeaseGates$Bucket;" ∈ wsX8_advance := by decide +kernel
  have hl : lv_has ls 4 [(0, .ref (y 1)), (1, .int x)] := hl
  have hF : CF S S y := CF.rf
  refine lv_aload_n hx hb dX8_advance_0 rfl (lv_at hl 0 rfl) ?_
  refine g_800 C hinX8 hW hC.1.lay.k1 hC.1.lay.r800 l12 dX8_advance_1 ?_
  refine k_callVi (As := []) (rest := []) C hml (c_X9_now (hC.1.lay.tk 6 (by omega))) (cwV 0 hts gX8_advance_X9_now rfl rfl rfl (by decide +kernel) ⟨by decide, by decide⟩) hW hS hB ((hC.1.lay.tk 6 (by omega))).1 (pAt_9 ((hC.1.lay.tk 6 (by omega))).2) rfl rfl hl.1 rfl (Nat.le_of_ble_eq_true rfl) dX8_advance_4 ⟨Nat.le_of_ble_eq_true rfl, Nat.le_of_ble_eq_true rfl⟩ (fun r9 S1 H locs hp9 hW hS => ?_)
  obtain ⟨e8, e9⟩ := hp9
  rw [e8] at hW
  rw [hC.1.t0 6 (by omega)] at e9
  replace e9 : r9 = mClk g 6 := e9
  subst e9
  refine lv_istore_n (lv' := [(2, .int (mClk g 6)), (0, .ref (y 1)), (1, .int x)]) hx hb dX8_advance_7 rfl hl (by decide) rfl (fun ls hl => ?_)
  refine lv_aload_n hx hb dX8_advance_8 rfl (lv_at hl 1 rfl) ?_
  refine g_800 C hinX8 hW hC.1.lay.k1 hC.1.lay.r800 l12 dX8_advance_9 ?_
  refine lv_iload_n hx hb dX8_advance_12 rfl (lv_at hl 2 rfl) ?_
  refine k_callVv (As := [.int x]) (rest := []) C hml (c_X9_advance (hC.1.lay.tk 6 (by omega))) (cwV 1 hts gX8_advance_X9_advance rfl rfl rfl (by decide +kernel) ⟨by decide, by decide⟩) hW hS hB ((hC.1.lay.tk 6 (by omega))).1 (pAt_9 ((hC.1.lay.tk 6 (by omega))).2) rfl rfl hl.1 rfl (Nat.le_of_ble_eq_true rfl) dX8_advance_13 ⟨Nat.le_of_ble_eq_true rfl, Nat.le_of_ble_eq_true rfl⟩ (fun S2 H locs hp9 hW hS => ?_)
  have hF9 : CF S S2 y := by rw [hp9]; exact hF.sJ (hC.1.lay.tk 6 (by omega)) (by decide)
  have hC9 : CR S2 y dE (iL g 1 6 (g.2.1 1 6 + x.toInt64 * (g.1 2 6).toInt64)) c0 := by rw [hp9, hC.1.t0 6 (by omega), hC.1.t1 6 (by omega)]; exact hC.wt0
  clear hC hF
  have hC := hC9
  have hF := hF9
  refine lv_iconst (v := 0) hx hb dX8_advance_16 (by decide) ?_
  refine lv_istore_n (lv' := [(3, .int 0), (2, .int (mClk g 6)), (0, .ref (y 1)), (1, .int x)]) hx hb dX8_advance_17 rfl hl (by decide) rfl (fun ls hl => ?_)
  have lp : ∀ (d i : Nat) (ck : CS) (Sk : PS) (H : Heap) (locs : List Loc) (ls : Array Slot), i ≤ 8 → 8 - i < d → CR Sk y dE (kPs (iL g 1 6 (g.2.1 1 6 + x.toInt64 * (g.1 2 6).toInt64)) n (mClk g 6) (mClk (iL g 1 6 (g.2.1 1 6 + x.toInt64 * (g.1 2 6).toInt64)) 6) i) ck → CF S Sk y → CanB ck (kPs (iL g 1 6 (g.2.1 1 6 + x.toInt64 * (g.1 2 6).toInt64)) n (mClk g 6) (mClk (iL g 1 6 (g.2.1 1 6 + x.toInt64 * (g.1 2 6).toInt64)) 6) i) n → cP ck = cP c0 → PW D cy B Sk H → va_S (Aw B) s.heap H locs → lv_has ls 4 [(0, .ref (y 1)), (1, .int x), (2, .int (mClk g 6)), (3, .int (nI i))] → W p l e ({ frames := 5, cells := 0, slots := 0, locals := 153 }) s m [.ref (y 1), .int x].toArray below meth c H locs 0 0 (MQ below (va_Qv (fun S2 => ∃ c2, CF S S2 y ∧ CR S2 y dE (kPs (iL g 1 6 (g.2.1 1 6 + x.toInt64 * (g.1 2 6).toInt64)) n (mClk g 6) (mClk (iL g 1 6 (g.2.1 1 6 + x.toInt64 * (g.1 2 6).toInt64)) 6) 8) c2 ∧ CanB c2 (kPs (iL g 1 6 (g.2.1 1 6 + x.toInt64 * (g.1 2 6).toInt64)) n (mClk g 6) (mClk (iL g 1 6 (g.2.1 1 6 + x.toInt64 * (g.1 2 6).toInt64)) 6) 8) n ∧ cP c2 = cP c0) (PreW D cy B s0) (Aw B)) [.ref (y 1), .int x].toArray s 0 0 (Aw B)) (F0 m 18 ls []) := by
    intro d
    induction d with
    | zero => intro i ck Sk H locs ls _ hd; exact absurd hd (Nat.not_lt_zero _)
    | succ d ih =>
      intro i ck Sk H locs ls hk hd hC hF hCB hP hW hS hl
      refine lv_iload_n hx hb dX8_advance_18 rfl (lv_at hl 3 rfl) ?_
      refine lv_bipush (v := 8) hx hb dX8_advance_19 (by decide) ?_
      refine lv_icmp_ge (tgt := 47) hx hb dX8_advance_21 (by decide) (fun c_21 => ?_) (fun c_21 => ?_)
      · have q_21 : 8 ≤ i := (nI_leI (a := 8) (b := i) (by omega) (by omega)).mp c_21
        exact k_vret C hr hlk hW hS hB ⟨ck, hF, by rw [show i = 8 by omega] at hC; exact hC, by rw [show i = 8 by omega] at hCB; exact hCB, hP⟩ (Nat.le_refl _) (Nat.le_refl _) dX8_advance_47
      · have q_21 : ¬ (8 ≤ i) := fun z => c_21 ((nI_leI (a := 8) (b := i) (by omega) (by omega)).mpr z)
        refine lv_aload_n hx hb dX8_advance_24 rfl (lv_at hl 0 rfl) ?_
        refine g_801 C hinX8 hW hC.1.lay.k1 hC.1.lay.r801 l20 dX8_advance_25 ?_
        refine lv_iload_n hx hb dX8_advance_28 rfl (lv_at hl 3 rfl) ?_
        refine a_Bucketload C hW (j := i) hC.1.lay.k5 hC.1.lay.n5 rfl (by omega) (by omega) (hC.1.lay.ba i (by omega)) dX8_advance_29 ?_
        refine lv_iload_n hx hb dX8_advance_30 rfl (lv_at hl 2 rfl) ?_
        refine lv_aload_n hx hb dX8_advance_31 rfl (lv_at hl 0 rfl) ?_
        refine g_800 C hinX8 hW hC.1.lay.k1 hC.1.lay.r800 l12 dX8_advance_32 ?_
        refine k_callVi (As := []) (rest := [.int (mClk g 6), .ref (y (40 + i))]) C hml (c_X9_now (hC.1.lay.tk 6 (by omega))) (cwV 0 hts gX8_advance_X9_now rfl rfl rfl (by decide +kernel) ⟨by decide, by decide⟩) hW hS hB ((hC.1.lay.tk 6 (by omega))).1 (pAt_9 ((hC.1.lay.tk 6 (by omega))).2) rfl rfl hl.1 rfl (Nat.le_of_ble_eq_true rfl) dX8_advance_35 ⟨Nat.le_of_ble_eq_true rfl, Nat.le_of_ble_eq_true rfl⟩ (fun r9 S3 H locs hp9 hW hS => ?_)
        obtain ⟨e8, e9⟩ := hp9
        rw [e8] at hW
        rw [hC.1.t0 6 (by omega), (kPs_j (iL g 1 6 (g.2.1 1 6 + x.toInt64 * (g.1 2 6).toInt64)) n (mClk g 6) (mClk (iL g 1 6 (g.2.1 1 6 + x.toInt64 * (g.1 2 6).toInt64)) 6) i).2.1 1 (by decide)] at e9
        replace e9 : r9 = (mClk (iL g 1 6 (g.2.1 1 6 + x.toInt64 * (g.1 2 6).toInt64)) 6) := e9
        subst e9
        refine k_callVv (As := [.int (mClk g 6), .int (mClk (iL g 1 6 (g.2.1 1 6 + x.toInt64 * (g.1 2 6).toInt64)) 6)]) (rest := []) C hml (c_X1_pass (g := (kPs (iL g 1 6 (g.2.1 1 6 + x.toInt64 * (g.1 2 6).toInt64)) n (mClk g 6) (mClk (iL g 1 6 (g.2.1 1 6 + x.toInt64 * (g.1 2 6).toInt64)) 6) i)) hC hE (by omega) hn3 hCB (kPs_I (g := (iL g 1 6 (g.2.1 1 6 + x.toInt64 * (g.1 2 6).toInt64))) hn3 hI i (by omega)) hat (kPs_end (g := (iL g 1 6 (g.2.1 1 6 + x.toInt64 * (g.1 2 6).toInt64))) hend i i (by omega))) (cwV 2 hts gX8_advance_X1_pass rfl rfl rfl (by decide +kernel) ⟨by decide, by decide⟩) hW hS hB ((hC.1.lay.bk i (by omega))).1 (pAt_1 ((hC.1.lay.bk i (by omega))).2) rfl rfl hl.1 rfl (Nat.le_of_ble_eq_true rfl) dX8_advance_38 ⟨Nat.le_of_ble_eq_true rfl, Nat.le_of_ble_eq_true rfl⟩ (fun S4 H locs hp9 hW hS => ?_)
        obtain ⟨c9, f9, k9, b9, p9⟩ := hp9
        have hF9 := hF.tr f9
        clear hC hF
        have hC := k9
        have hF := hF9
        refine lv_iinc (v := nI (i + 1)) (lv' := [(3, .int (nI (i + 1))), (0, .ref (y 1)), (1, .int x), (2, .int (mClk g 6))]) hx hb dX8_advance_41 hl (k := 3) rfl (nI_add i 1) (by decide) rfl (fun ls hl => ?_)
        refine lv_goto (tgt := 18) hx hb dX8_advance_44 (by decide) ?_
        exact ih (i + 1) c9 _ _ _ ls (by omega) (by omega) hC hF b9 (p9.trans hP) hW hS (lv_sub hl [1, 2, 3, 0] rfl)
  exact lp (8 - 0 + 1) 0 c0 _ _ _ ls (by omega) (by omega) hC hF hCB0 rfl hW hS (lv_sub hl [2, 3, 1, 0] rfl)
