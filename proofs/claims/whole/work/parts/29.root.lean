set_option maxRecDepth 100000 in
set_option maxHeartbeats 1000000 in
theorem c_X8_accountOf {l : Launch} {D : va_G} {cy : Nat → ClassId} {B : Nat} {s0 : State} {S : PS} {y : Nat → Nat} {gt kk : Nat} (hLy : Lay S y) (hg : gt < 6) (hk : kk < 8) : KQ l yX8_accountOf wsX8_accountOf ({ frames := 0, cells := 0, slots := 0, locals := 0 }) D cy B s0 [.ref (y 1), .int (nI gt), .int (nI kk)] S (fun r S2 => S2 = S ∧ r = some (y (300 + (8 * gt + kk)))) 0 0 := by
  refine k_body (own := RX8) (cc := cX8_accountOf) (maxL := 3) (ret := (some (.object "LeaseGates$Account"))) rfl (by decide) rfl (Nat.le_of_ble_eq_true rfl) ?_
  intro p e s m below meth c C hml hr hlk hnm hB hW ls hl
  obtain ⟨hx, hb, hts, hown, hK, hEn⟩ := id C
  have hS : va_S (Aw B) s.heap s.heap [] := va_S.rf
  have hinX8 : ∀ w ∈ wsX80, w ∈ wsX8_accountOf := by decide +kernel
  have l26 : Cond.fieldLink RX8 26 "LeaseGates$Root" "accounts" "[LLeaseGates$Account;" ∈ wsX8_accountOf := by decide +kernel
  have hl : lv_has ls 3 [(0, .ref (y 1)), (1, .int (nI gt)), (2, .int (nI kk))] := hl
  refine lv_aload_n hx hb dX8_accountOf_0 rfl (lv_at hl 0 rfl) ?_
  refine g_802 C hinX8 hW hLy.k1 hLy.r802 l26 dX8_accountOf_1 ?_
  refine lv_iload_n hx hb dX8_accountOf_4 rfl (lv_at hl 1 rfl) ?_
  refine lv_bipush (v := 8) hx hb dX8_accountOf_5 (by decide) ?_
  refine lv_imul hx hb dX8_accountOf_7 ?_
  refine top_i (show (nI gt) * 8 = nI (gt * 8) from pk_mul gt 8) ?_
  refine top_i (show nI (gt * 8) = nI (8 * gt) from (by rw [Nat.mul_comm])) ?_
  refine lv_iload_n hx hb dX8_accountOf_8 rfl (lv_at hl 2 rfl) ?_
  refine lv_iadd hx hb dX8_accountOf_9 ?_
  refine top_i (show (nI (8 * gt)) + (nI kk) = nI ((8 * gt) + kk) from nI_add (8 * gt) kk) ?_
  refine a_Accountload C hW (j := ((8 * gt) + kk)) hLy.k6 hLy.n6 rfl (by omega) (by omega) (hLy.ca ((8 * gt) + kk) (by omega)) dX8_accountOf_10 ?_
  exact k_aret C hr hlk hW hS hB ⟨rfl, rfl⟩ (Or.inl ⟨_, rfl⟩) (Nat.le_refl _) (Nat.le_refl _) dX8_accountOf_11
set_option maxRecDepth 100000 in
set_option maxHeartbeats 1000000 in
theorem c_X8_forgetAnswers {l : Launch} {D : va_G} {cy : Nat → ClassId} {B : Nat} {s0 : State} {S : PS} {y : Nat → Nat} {gt : Nat} (hLy : Lay S y) (hg : gt < 6) : KV l yX8_forgetAnswers wsX8_forgetAnswers ({ frames := 1, cells := 0, slots := 0, locals := 22 }) D cy B s0 [.ref (y 1), .int (nI gt)] S (fun S2 => S2 = frg S y gt 8) 0 0 := by
  refine k_body (own := RX8) (cc := cX8_forgetAnswers) (maxL := 3) (ret := none) rfl (by decide) rfl (Nat.le_of_ble_eq_true rfl) ?_
  intro p e s m below meth c C hml hr hlk hnm hB hW ls hl
  obtain ⟨hx, hb, hts, hown, hK, hEn⟩ := id C
  have hS : va_S (Aw B) s.heap s.heap [] := va_S.rf
  have hinX0 : ∀ w ∈ wsX00, w ∈ wsX8_forgetAnswers := by decide +kernel
  have l70 : Cond.fieldLink RX8 70 "LeaseGates$Account" "answer" "LLeaseGates$Message;" ∈ wsX8_forgetAnswers := by decide +kernel
  have hl : lv_has ls 3 [(0, .ref (y 1)), (1, .int (nI gt))] := hl
  refine lv_iconst (v := 0) hx hb dX8_forgetAnswers_0 (by decide) ?_
  refine lv_istore_n (lv' := [(2, .int 0), (0, .ref (y 1)), (1, .int (nI gt))]) hx hb dX8_forgetAnswers_1 rfl hl (by decide) rfl (fun ls hl => ?_)
  have lp : ∀ (d i : Nat) (Sk : PS) (H : Heap) (locs : List Loc) (ls : Array Slot), i ≤ 8 → 8 - i < d → Sk = frg S y gt i → PW D cy B Sk H → va_S (Aw B) s.heap H locs → lv_has ls 3 [(0, .ref (y 1)), (1, .int (nI gt)), (2, .int (nI i))] → W p l e ({ frames := 1, cells := 0, slots := 0, locals := 22 }) s m [.ref (y 1), .int (nI gt)].toArray below meth c H locs 0 0 (MQ below (va_Qv (fun S2 => S2 = frg S y gt 8) (PreW D cy B s0) (Aw B)) [.ref (y 1), .int (nI gt)].toArray s 0 0 (Aw B)) (F0 m 2 ls []) := by
    intro d
    induction d with
    | zero => intro i  Sk H locs ls _ hd; exact absurd hd (Nat.not_lt_zero _)
    | succ d ih =>
      intro i  Sk H locs ls hk hd eS hW hS hl
      subst eS
      refine lv_iload_n hx hb dX8_forgetAnswers_2 rfl (lv_at hl 2 rfl) ?_
      refine lv_bipush (v := 8) hx hb dX8_forgetAnswers_3 (by decide) ?_
      refine lv_icmp_ge (tgt := 24) hx hb dX8_forgetAnswers_5 (by decide) (fun c_5 => ?_) (fun c_5 => ?_)
      · have q_5 : 8 ≤ i := (nI_leI (a := 8) (b := i) (by omega) (by omega)).mp c_5
        exact k_vret C hr hlk hW hS hB (by rw [show i = 8 by omega]) (Nat.le_refl _) (Nat.le_refl _) dX8_forgetAnswers_24
      · have q_5 : ¬ (8 ≤ i) := fun z => c_5 ((nI_leI (a := 8) (b := i) (by omega) (by omega)).mpr z)
        refine lv_aload_n hx hb dX8_forgetAnswers_8 rfl (lv_at hl 0 rfl) ?_
        refine lv_iload_n hx hb dX8_forgetAnswers_9 rfl (lv_at hl 1 rfl) ?_
        refine lv_iload_n hx hb dX8_forgetAnswers_10 rfl (lv_at hl 2 rfl) ?_
        refine k_callVq (As := [.int (nI gt), .int (nI i)]) (rest := []) C hml (c_X8_accountOf (frg_lay hLy i) (by omega) (by omega)) (cwV 2 hts gX8_forgetAnswers_X8_accountOf rfl rfl rfl (by decide +kernel) ⟨by decide, by decide⟩) hW hS hB ((frg_lay hLy i).k1).1 (pAt_8 ((frg_lay hLy i).k1).2) rfl rfl hl.1 rfl (Nat.le_of_ble_eq_true rfl) dX8_forgetAnswers_11 ⟨Nat.le_of_ble_eq_true rfl, Nat.le_of_ble_eq_true rfl⟩ (fun r9 S1 H locs hp9 hW hS => ?_)
        obtain ⟨e8, e9⟩ := hp9
        rw [e8] at hW
        subst e9
        refine lv_null hx hb dX8_forgetAnswers_14 ?_
        refine p_3n C hinX0 hW hS ((frg_lay hLy i).ck (8 * gt + i) (by omega)) l70 dX8_forgetAnswers_15 (fun S1 H locs e1 hW hS => ?_)
        subst e1
        refine lv_iinc (v := nI (i + 1)) (lv' := [(2, .int (nI (i + 1))), (0, .ref (y 1)), (1, .int (nI gt))]) hx hb dX8_forgetAnswers_18 hl (k := 2) rfl (nI_add i 1) (by decide) rfl (fun ls hl => ?_)
        refine lv_goto (tgt := 2) hx hb dX8_forgetAnswers_21 (by decide) ?_
        exact ih (i + 1)  _ _ _ ls (by omega) (by omega) rfl hW hS (lv_sub hl [1, 2, 0] rfl)
  exact lp (8 - 0 + 1) 0  _ _ _ ls (by omega) (by omega) rfl hW hS (lv_sub hl [1, 2, 0] rfl)
set_option maxRecDepth 100000 in
set_option maxHeartbeats 1000000 in
theorem c_X8_shareOf {l : Launch} {D : va_G} {cy : Nat → ClassId} {B : Nat} {s0 : State} {S : PS} {y : Nat → Nat} {dE mi : Nat} {g : MS} {c0 : CS} {kk : Nat} {x1 x3 : Int32} (hC : CR S y dE g c0) (hE : EnvC dE mi B s0) (hk : kk < 8) : KI l yX8_shareOf wsX8_shareOf ({ frames := 1, cells := 0, slots := 0, locals := 22 }) D cy B s0 [.ref (y 1), .int x1, .int (nI kk), .int x3] S (fun r S2 => S2 = S ∧ r = (if 0 < mSumW g kk (mClk g 6) 6 then x1 * x3 / mSumW g kk (mClk g 6) 6 else 0)) 0 0 := by
  refine k_body (own := RX8) (cc := cX8_shareOf) (maxL := 7) (ret := (some .int)) rfl (by decide) rfl (Nat.le_of_ble_eq_true rfl) ?_
  intro p e s m below meth c C hml hr hlk hnm hB hW ls hl
  obtain ⟨hx, hb, hts, hown, hK, hEn⟩ := id C
  have hS : va_S (Aw B) s.heap s.heap [] := va_S.rf
  have hinX0 : ∀ w ∈ wsX00, w ∈ wsX8_shareOf := by decide +kernel
  have hinX8 : ∀ w ∈ wsX80, w ∈ wsX8_shareOf := by decide +kernel
  have l12 : Cond.fieldLink RX8 12 "LeaseGates$Root" "ticker" "LLeaseGates$Ticker;" ∈ wsX8_shareOf := by decide +kernel
  have l100 : Cond.fieldLink RX8 100 "LeaseGates$Account" "share" "I" ∈ wsX8_shareOf := by decide +kernel
  have hl : lv_has ls 7 [(0, .ref (y 1)), (1, .int x1), (2, .int (nI kk)), (3, .int x3)] := hl
  have hF : CF S S y := CF.rf
  refine lv_iconst (v := 0) hx hb dX8_shareOf_0 (by decide) ?_
  refine lv_istore (lv' := [(4, .int 0), (0, .ref (y 1)), (1, .int x1), (2, .int (nI kk)), (3, .int x3)]) hx hb dX8_shareOf_1 hl (by decide) rfl (fun ls hl => ?_)
  refine lv_iconst (v := 0) hx hb dX8_shareOf_3 (by decide) ?_
  refine lv_istore (lv' := [(5, .int 0), (4, .int 0), (0, .ref (y 1)), (1, .int x1), (2, .int (nI kk)), (3, .int x3)]) hx hb dX8_shareOf_4 hl (by decide) rfl (fun ls hl => ?_)
  have lp : ∀ (d i : Nat) (x4 : Int32) (H : Heap) (locs : List Loc) (ls : Array Slot), i ≤ 6 → 6 - i < d → x4 = mSumW g kk (mClk g 6) i → PW D cy B S H → va_S (Aw B) s.heap H locs → lv_has ls 7 [(0, .ref (y 1)), (1, .int x1), (2, .int (nI kk)), (3, .int x3), (4, .int x4), (5, .int (nI i))] → W p l e ({ frames := 1, cells := 0, slots := 0, locals := 22 }) s m [.ref (y 1), .int x1, .int (nI kk), .int x3].toArray below meth c H locs 0 0 (MQ below (va_Qi (fun r S2 => S2 = S ∧ r = (if 0 < mSumW g kk (mClk g 6) 6 then x1 * x3 / mSumW g kk (mClk g 6) 6 else 0)) (PreW D cy B s0) (Aw B)) [.ref (y 1), .int x1, .int (nI kk), .int x3].toArray s 0 0 (Aw B)) (F0 m 6 ls []) := by
    intro d
    induction d with
    | zero => intro i x4 H locs ls _ hd; exact absurd hd (Nat.not_lt_zero _)
    | succ d ih =>
      intro i x4 H locs ls hk hd e4 hW hS hl
      refine lv_iload hx hb dX8_shareOf_6 (lv_at hl 5 rfl) ?_
      refine lv_bipush (v := 6) hx hb dX8_shareOf_8 (by decide) ?_
      refine lv_icmp_ge (tgt := 53) hx hb dX8_shareOf_10 (by decide) (fun c_10 => ?_) (fun c_10 => ?_)
      · have q_10 : 6 ≤ i := (nI_leI (a := 6) (b := i) (by omega) (by omega)).mp c_10
        refine lv_iload hx hb dX8_shareOf_53 (lv_at hl 4 rfl) ?_
        refine lv_if_le (tgt := 67) hx hb dX8_shareOf_55 (by decide) (fun c_55 => ?_) (fun c_55 => ?_)
        · have hx4 : x4 = mSumW g kk (mClk g 6) 6 := by rw [e4, show i = 6 by omega]
          refine lv_iconst (v := 0) hx hb dX8_shareOf_67 (by decide) ?_
          exact k_iret C hr hlk hW hS hB ⟨rfl, by rw [if_neg (by rw [← hx4]; exact Int32.not_lt.mpr c_55)]⟩ (Nat.le_refl _) (Nat.le_refl _) dX8_shareOf_68
        · have hx4 : x4 = mSumW g kk (mClk g 6) 6 := by rw [e4, show i = 6 by omega]
          have hps0 : 0 < x4 := Int32.not_le.mp c_55
          have hps : 0 < mSumW g kk (mClk g 6) 6 := by rw [← hx4]; exact hps0
          refine lv_iload_n hx hb dX8_shareOf_58 rfl (lv_at hl 1 rfl) ?_
          refine lv_iload_n hx hb dX8_shareOf_59 rfl (lv_at hl 3 rfl) ?_
          refine lv_imul hx hb dX8_shareOf_60 ?_
          refine lv_iload hx hb dX8_shareOf_61 (lv_at hl 4 rfl) ?_
          refine lv_idiv hx hb dX8_shareOf_63 (fun z9 => by rw [z9] at hps0; exact absurd hps0 (by decide)) ?_
          refine lv_goto (tgt := 68) hx hb dX8_shareOf_64 (by decide) ?_
          exact k_iret C hr hlk hW hS hB ⟨rfl, by rw [if_pos hps, hx4]⟩ (Nat.le_refl _) (Nat.le_refl _) dX8_shareOf_68
      · have q_10 : ¬ (6 ≤ i) := fun z => c_10 ((nI_leI (a := 6) (b := i) (by omega) (by omega)).mpr z)
        refine lv_aload_n hx hb dX8_shareOf_13 rfl (lv_at hl 0 rfl) ?_
        refine lv_iload hx hb dX8_shareOf_14 (lv_at hl 5 rfl) ?_
        refine lv_iload_n hx hb dX8_shareOf_16 rfl (lv_at hl 2 rfl) ?_
        refine k_callVq (As := [.int (nI i), .int (nI kk)]) (rest := []) C hml (c_X8_accountOf hC.1.lay (by omega) (by omega)) (cwV 2 hts gX8_shareOf_X8_accountOf rfl rfl rfl (by decide +kernel) ⟨by decide, by decide⟩) hW hS hB (hC.1.lay.k1).1 (pAt_8 (hC.1.lay.k1).2) rfl rfl hl.1 rfl (Nat.le_of_ble_eq_true rfl) dX8_shareOf_17 ⟨Nat.le_of_ble_eq_true rfl, Nat.le_of_ble_eq_true rfl⟩ (fun r9 S1 H locs hp9 hW hS => ?_)
        obtain ⟨e8, e9⟩ := hp9
        rw [e8] at hW
        subst e9
        refine lv_astore (lv' := [(6, .ref (y (300 + (8 * i + kk)))), (0, .ref (y 1)), (1, .int x1), (2, .int (nI kk)), (3, .int x3), (4, .int x4), (5, .int (nI i))]) hx hb dX8_shareOf_20 hl (by decide) rfl (fun ls hl => ?_)
        refine lv_aload hx hb dX8_shareOf_22 (lv_at hl 0 rfl) ?_
        refine lv_aload_n hx hb dX8_shareOf_24 rfl (lv_at hl 1 rfl) ?_
        refine g_800 C hinX8 hW hC.1.lay.k1 hC.1.lay.r800 l12 dX8_shareOf_25 ?_
        refine k_callVi (As := []) (rest := [.ref (y (300 + (8 * i + kk)))]) C hml (c_X9_now (hC.1.lay.tk 6 (by omega))) (cwV 0 hts gX8_shareOf_X9_now rfl rfl rfl (by decide +kernel) ⟨by decide, by decide⟩) hW hS hB ((hC.1.lay.tk 6 (by omega))).1 (pAt_9 ((hC.1.lay.tk 6 (by omega))).2) rfl rfl hl.1 rfl (Nat.le_of_ble_eq_true rfl) dX8_shareOf_28 ⟨Nat.le_of_ble_eq_true rfl, Nat.le_of_ble_eq_true rfl⟩ (fun r9 S2 H locs hp9 hW hS => ?_)
        obtain ⟨e8, e9⟩ := hp9
        rw [e8] at hW
        rw [hC.1.t0 6 (by omega)] at e9
        replace e9 : r9 = mClk g 6 := e9
        subst e9
        refine k_callVi (As := [.int (mClk g 6)]) (rest := []) C hml (c_X0_askedOfLate (hC.1.lay.ck (8 * i + kk) (by omega))) (cwV 1 hts gX8_shareOf_X0_askedOfLate rfl rfl rfl (by decide +kernel) ⟨by decide, by decide⟩) hW hS hB ((hC.1.lay.ck (8 * i + kk) (by omega))).1 (pAt_0 ((hC.1.lay.ck (8 * i + kk) (by omega))).2) rfl rfl hl.1 rfl (Nat.le_of_ble_eq_true rfl) dX8_shareOf_31 ⟨Nat.le_of_ble_eq_true rfl, Nat.le_of_ble_eq_true rfl⟩ (fun r9 S3 H locs hp9 hW hS => ?_)
        obtain ⟨e8, e9⟩ := hp9
        rw [e8] at hW
        rw [hC.1.a1 (8 * i + kk) (by omega), hC.1.a2 (8 * i + kk) (by omega)] at e9
        subst e9
        refine lv_if_eq (tgt := 47) hx hb dX8_shareOf_34 (by decide) (fun c_34 => ?_) (fun c_34 => ?_)
        · have q_34 : ¬ (¬ g.1 17 (8 * i + kk) = 0 ∧ mClk g 6 - g.1 18 (8 * i + kk) < 1000) := ite0.mp c_34
          refine lv_iinc (v := nI (i + 1)) (lv' := [(5, .int (nI (i + 1))), (6, .ref (y (300 + (8 * i + kk)))), (0, .ref (y 1)), (1, .int x1), (2, .int (nI kk)), (3, .int x3), (4, .int x4)]) hx hb dX8_shareOf_47 hl (k := 6) rfl (nI_add i 1) (by decide) rfl (fun ls hl => ?_)
          refine lv_goto (tgt := 6) hx hb dX8_shareOf_50 (by decide) ?_
          exact ih (i + 1) _ _ _ ls (by omega) (by omega) (by rw [e4, mSumW, if_neg q_34]) hW hS (lv_sub hl [2, 3, 4, 5, 6, 0] rfl)
        · have q_34 : (¬ g.1 17 (8 * i + kk) = 0 ∧ mClk g 6 - g.1 18 (8 * i + kk) < 1000) := ite1.mp c_34
          refine lv_iload hx hb dX8_shareOf_37 (lv_at hl 5 rfl) ?_
          refine lv_aload hx hb dX8_shareOf_39 (lv_at hl 0 rfl) ?_
          refine g_0 C hinX0 hW (hC.1.lay.ck (8 * i + kk) (by omega)) l100 dX8_shareOf_41 ?_
          refine top_i (show fI S 0 (y (300 + (8 * i + kk))) = g.1 19 (8 * i + kk) from hC.1.a0 (8 * i + kk) (by omega)) ?_
          refine lv_iadd hx hb dX8_shareOf_44 ?_
          refine lv_istore (lv' := [(4, .int (x4 + (g.1 19 (8 * i + kk)))), (6, .ref (y (300 + (8 * i + kk)))), (0, .ref (y 1)), (1, .int x1), (2, .int (nI kk)), (3, .int x3), (5, .int (nI i))]) hx hb dX8_shareOf_45 hl (by decide) rfl (fun ls hl => ?_)
          refine lv_iinc (v := nI (i + 1)) (lv' := [(5, .int (nI (i + 1))), (4, .int (x4 + (g.1 19 (8 * i + kk)))), (6, .ref (y (300 + (8 * i + kk)))), (0, .ref (y 1)), (1, .int x1), (2, .int (nI kk)), (3, .int x3)]) hx hb dX8_shareOf_47 hl (k := 6) rfl (nI_add i 1) (by decide) rfl (fun ls hl => ?_)
          refine lv_goto (tgt := 6) hx hb dX8_shareOf_50 (by decide) ?_
          exact ih (i + 1) _ _ _ ls (by omega) (by omega) (by rw [e4, mSumW, if_pos q_34]) hW hS (lv_sub hl [3, 4, 5, 6, 1, 0] rfl)
  exact lp (6 - 0 + 1) 0 0 _ _ ls (by omega) (by omega) rfl hW hS (lv_sub hl [2, 3, 4, 5, 1, 0] rfl)
set_option maxRecDepth 100000 in
set_option maxHeartbeats 1000000 in
theorem c_X8_answerTo {l : Launch} {D : va_G} {cy : Nat → ClassId} {B : Nat} {s0 : State} {S : PS} {y : Nat → Nat} {dE mi : Nat} {g : MS} {c0 : CS} {gt kk n : Nat} {b : Nat} {x0 x3 x4 x5 x6 x7 : Int32} (hC : CR S y dE g c0) (hE : EnvC dE mi B s0) (hg : gt < 6) (hk : kk < 8) (hn : n < 300) (hnl : g.2.2 1107 = nI n) (hCB : CanB c0 g n) (hI : BInv g n) (hw9 : WOk g) (ht : 0 < x4.toInt) (hM : MsgAt S b x0 (nI gt) (nI kk) x3 x4 x5 x6 x7) : KQ l yX8_answerTo wsX8_answerTo ({ frames := 8, cells := 3, slots := 1111, locals := 214 }) D cy B s0 [.ref (y 1), .ref b, .ref (y (300 + (8 * gt + kk)))] S (fun r S2 => ∃ m9 c2, r = some m9 ∧ CF S S2 y ∧ CR S2 y dE (kAns g n gt kk (mGets g gt kk x4)) c2 ∧ MsgAt S2 m9 1 (nI gt) (nI kk) x3 (mGets g gt kk x4) x5 (kNum n (mGets g gt kk x4)) (g.2.2 1111) ∧ CanB c2 (kAns g n gt kk (mGets g gt kk x4)) (kN n (mGets g gt kk x4)) ∧ cP c2 = cP c0) 3 1111 := by
  refine k_body (own := RX8) (cc := cX8_answerTo) (maxL := 7) (ret := (some (.object "LeaseGates$Message"))) rfl (by decide) rfl (Nat.le_of_ble_eq_true rfl) ?_
  intro p e s m below meth c C hml hr hlk hnm hB hW ls hl
  obtain ⟨hx, hb, hts, hown, hK, hEn⟩ := id C
  have hS : va_S (Aw B) s.heap s.heap [] := va_S.rf
  have hinX0 : ∀ w ∈ wsX00, w ∈ wsX8_answerTo := by decide +kernel
  have hinX6 : ∀ w ∈ wsX60, w ∈ wsX8_answerTo := by decide +kernel
  have hinX8 : ∀ w ∈ wsX80, w ∈ wsX8_answerTo := by decide +kernel
  have l12 : Cond.fieldLink RX8 12 "LeaseGates$Root" "ticker" "LLeaseGates$Ticker;" ∈ wsX8_answerTo := by decide +kernel
  have l20 : Cond.fieldLink RX8 20 "LeaseGates$Root" "buckets" "[LLeaseGates$Bucket;" ∈ wsX8_answerTo := by decide +kernel
  have l34 : Cond.fieldLink RX8 34 "LeaseGates$Root" "loanLength" "I" ∈ wsX8_answerTo := by decide +kernel
  have l63 : Cond.fieldLink RX8 63 "LeaseGates$Message" "key" "I" ∈ wsX8_answerTo := by decide +kernel
  have l87 : Cond.fieldLink RX8 87 "LeaseGates$Account" "asked" "Z" ∈ wsX8_answerTo := by decide +kernel
  have l91 : Cond.fieldLink RX8 91 "LeaseGates$Account" "askedAt" "I" ∈ wsX8_answerTo := by decide +kernel
  have l97 : Cond.fieldLink RX8 97 "LeaseGates$Message" "tokens" "I" ∈ wsX8_answerTo := by decide +kernel
  have l100 : Cond.fieldLink RX8 100 "LeaseGates$Account" "share" "I" ∈ wsX8_answerTo := by decide +kernel
  have l110 : Cond.fieldLink RX8 110 "LeaseGates$Root" "loansSoFar" "I" ∈ wsX8_answerTo := by decide +kernel
  have hl : lv_has ls 7 [(0, .ref (y 1)), (1, .ref b), (2, .ref (y (300 + (8 * gt + kk))))] := hl
  have hF : CF S S y := CF.rf
  refine lv_aload_n hx hb dX8_answerTo_0 rfl (lv_at hl 2 rfl) ?_
  refine lv_iconst (v := 1) hx hb dX8_answerTo_1 (by decide) ?_
  refine p_1 C hinX0 hW hS (by decide) (hC.1.lay.ck (8 * gt + kk) (by omega)) l87 dX8_answerTo_2 (fun S1 H locs e1 hW hS => ?_)
  have hF9 : CF S S1 y := by rw [e1]; exact hF.sI (hC.1.lay.ck (8 * gt + kk) (by omega)) (by decide)
  have hC9 : CR S1 y dE (iI g 17 (8 * gt + kk) 1) c0 := by rw [e1]; exact hC.wa1
  replace hM : MsgAt S1 b x0 (nI gt) (nI kk) x3 x4 x5 x6 x7 := by rw [e1]; exact hM
  clear hC hF e1
  have hF := hF9
  have hC := hC9
  clear hC9 hF9
  refine lv_aload_n hx hb dX8_answerTo_5 rfl (lv_at hl 2 rfl) ?_
  refine lv_aload_n hx hb dX8_answerTo_6 rfl (lv_at hl 0 rfl) ?_
  refine g_800 C hinX8 hW hC.1.lay.k1 hC.1.lay.r800 l12 dX8_answerTo_7 ?_
  refine k_callVi (As := []) (rest := [.ref (y (300 + (8 * gt + kk)))]) C hml (c_X9_now (hC.1.lay.tk 6 (by omega))) (cwV 0 hts gX8_answerTo_X9_now rfl rfl rfl (by decide +kernel) ⟨by decide, by decide⟩) hW hS hB ((hC.1.lay.tk 6 (by omega))).1 (pAt_9 ((hC.1.lay.tk 6 (by omega))).2) rfl rfl hl.1 rfl (Nat.le_of_ble_eq_true rfl) dX8_answerTo_10 ⟨Nat.le_of_ble_eq_true rfl, Nat.le_of_ble_eq_true rfl⟩ (fun r9 S2 H locs hp9 hW hS => ?_)
  obtain ⟨e8, e9⟩ := hp9
  rw [e8] at hW
  rw [hC.1.t0 6 (by omega)] at e9
  replace e9 : r9 = mClk (iI g 17 (8 * gt + kk) 1) 6 := e9
  subst e9
  refine p_2 C hinX0 hW hS (hC.1.lay.ck (8 * gt + kk) (by omega)) l91 dX8_answerTo_13 (fun S3 H locs e1 hW hS => ?_)
  have hF9 : CF S S3 y := by rw [e1]; exact hF.sI (hC.1.lay.ck (8 * gt + kk) (by omega)) (by decide)
  have hC9 : CR S3 y dE (iI (iI g 17 (8 * gt + kk) 1) 18 (8 * gt + kk) (mClk (iI g 17 (8 * gt + kk) 1) 6)) c0 := by rw [e1]; exact hC.wa2
  replace hM : MsgAt S3 b x0 (nI gt) (nI kk) x3 x4 x5 x6 x7 := by rw [e1]; exact hM
  clear hC hF e1
  have hF := hF9
  have hC := hC9
  clear hC9 hF9
  have hC : CR S3 y dE (mAn1 g gt kk) c0 := hC
  refine lv_aload_n hx hb dX8_answerTo_16 rfl (lv_at hl 0 rfl) ?_
  refine g_801 C hinX8 hW hC.1.lay.k1 hC.1.lay.r801 l20 dX8_answerTo_17 ?_
  refine lv_aload_n hx hb dX8_answerTo_20 rfl (lv_at hl 1 rfl) ?_
  refine g_602 C hinX6 hW hM.1 l63 dX8_answerTo_21 ?_
  refine top_i (show fI S3 602 b = nI kk from hM.2.2.2.1) ?_
  refine a_Bucketload C hW (j := kk) hC.1.lay.k5 hC.1.lay.n5 rfl (by omega) (by omega) (hC.1.lay.ba kk (by omega)) dX8_answerTo_24 ?_
  refine lv_astore_n (lv' := [(3, .ref (y (40 + kk))), (0, .ref (y 1)), (1, .ref b), (2, .ref (y (300 + (8 * gt + kk))))]) hx hb dX8_answerTo_25 rfl hl (by decide) rfl (fun ls hl => ?_)
  refine lv_aload_n hx hb dX8_answerTo_26 rfl (lv_at hl 0 rfl) ?_
  refine k_callVi (As := []) (rest := []) C hml (c_X1_free (hC.1.lay.bk kk (by omega))) (cwV 0 hts gX8_answerTo_X1_free rfl rfl rfl (by decide +kernel) ⟨by decide, by decide⟩) hW hS hB ((hC.1.lay.bk kk (by omega))).1 (pAt_1 ((hC.1.lay.bk kk (by omega))).2) rfl rfl hl.1 rfl (Nat.le_of_ble_eq_true rfl) dX8_answerTo_27 ⟨Nat.le_of_ble_eq_true rfl, Nat.le_of_ble_eq_true rfl⟩ (fun r9 S4 H locs hp9 hW hS => ?_)
  obtain ⟨e8, e9⟩ := hp9
  rw [e8] at hW
  rw [hC.1.b3 kk (by omega)] at e9
  replace e9 : r9 = mFree g kk := e9.trans (free_same (hI.1 kk hk).2.2.1 (hI.1 kk hk).2.2.2).1
  subst e9
  refine lv_istore (lv' := [(4, .int (mFree g kk)), (3, .ref (y (40 + kk))), (0, .ref (y 1)), (1, .ref b), (2, .ref (y (300 + (8 * gt + kk))))]) hx hb dX8_answerTo_30 hl (by decide) rfl (fun ls hl => ?_)
  refine lv_iload hx hb dX8_answerTo_32 (lv_at hl 0 rfl) ?_
  refine lv_aload_n hx hb dX8_answerTo_34 rfl (lv_at hl 3 rfl) ?_
  refine g_604 C hinX6 hW hM.1 l97 dX8_answerTo_35 ?_
  refine top_i (show fI S3 604 b = x4 from hM.2.2.2.2.2.1) ?_
  refine lv_icmp_lt (tgt := 48) hx hb dX8_answerTo_38 (by decide) (fun c_38 => ?_) (fun c_38 => ?_)
  · refine lv_aload_n hx hb dX8_answerTo_48 rfl (lv_at hl 2 rfl) ?_
    refine lv_iload hx hb dX8_answerTo_49 (lv_at hl 0 rfl) ?_
    refine lv_aload_n hx hb dX8_answerTo_51 rfl (lv_at hl 3 rfl) ?_
    refine g_602 C hinX6 hW hM.1 l63 dX8_answerTo_52 ?_
    refine top_i (show fI S3 602 b = nI kk from hM.2.2.2.1) ?_
    refine lv_aload_n hx hb dX8_answerTo_55 rfl (lv_at hl 4 rfl) ?_
    refine g_0 C hinX0 hW (hC.1.lay.ck (8 * gt + kk) (by omega)) l100 dX8_answerTo_56 ?_
    refine top_i (show fI S3 0 (y (300 + (8 * gt + kk))) = (mAn1 g gt kk).1 19 (8 * gt + kk) from hC.1.a0 (8 * gt + kk) (by omega)) ?_
    refine k_callVi (As := [.int (mFree g kk), .int (nI kk), .int ((mAn1 g gt kk).1 19 (8 * gt + kk))]) (rest := []) C hml (c_X8_shareOf (g := (mAn1 g gt kk)) hC hE hk) (cwV 3 hts gX8_answerTo_X8_shareOf rfl rfl rfl (by decide +kernel) ⟨by decide, by decide⟩) hW hS hB (hC.1.lay.k1).1 (pAt_8 (hC.1.lay.k1).2) rfl rfl hl.1 rfl (Nat.le_of_ble_eq_true rfl) dX8_answerTo_59 ⟨Nat.le_of_ble_eq_true rfl, Nat.le_of_ble_eq_true rfl⟩ (fun r9 S5 H locs hp9 hW hS => ?_)
    obtain ⟨e8, e9⟩ := hp9
    rw [e8] at hW
    obtain ⟨p9, g9⟩ := gets_same hw9 hI hg hk (Int32.not_le.mpr c_38)
    replace e9 : r9 = mGets g gt kk x4 := e9.trans (by rw [g9, if_pos (show 0 < mSumW (mAn1 g gt kk) kk (mClk (mAn1 g gt kk) 6) 6 from (Int32.lt_iff_toInt_lt).mpr p9)]; rfl)
    subst e9
    
    refine lv_istore (lv' := [(5, .int (mGets g gt kk x4)), (4, .int (mFree g kk)), (3, .ref (y (40 + kk))), (0, .ref (y 1)), (1, .ref b), (2, .ref (y (300 + (8 * gt + kk))))]) hx hb dX8_answerTo_62 hl (by decide) rfl (fun ls hl => ?_)
    refine lv_iload hx hb dX8_answerTo_64 (lv_at hl 0 rfl) ?_
    refine lv_if_gt (tgt := 84) hx hb dX8_answerTo_66 (by decide) (fun c_66 => ?_) (fun c_66 => ?_)
    · refine lv_aload_n hx hb dX8_answerTo_84 rfl (lv_at hl 3 rfl) ?_
      refine g_805 C hinX8 hW hC.1.lay.k1 l110 dX8_answerTo_85 ?_
      refine top_i (show fI S3 805 (y 1) = nI n from (hC.1.ln).trans hnl) ?_
      refine lv_istore (lv' := [(6, .int (nI n)), (5, .int (mGets g gt kk x4)), (4, .int (mFree g kk)), (3, .ref (y (40 + kk))), (0, .ref (y 1)), (1, .ref b), (2, .ref (y (300 + (8 * gt + kk))))]) hx hb dX8_answerTo_88 hl (by decide) rfl (fun ls hl => ?_)
      refine lv_aload_n hx hb dX8_answerTo_90 rfl (lv_at hl 4 rfl) ?_
      refine lv_dup hx hb dX8_answerTo_91 rfl ?_
      refine g_805 C hinX8 hW hC.1.lay.k1 l110 dX8_answerTo_92 ?_
      refine top_i (show fI S3 805 (y 1) = nI n from (hC.1.ln).trans hnl) ?_
      refine lv_iconst (v := 1) hx hb dX8_answerTo_95 (by decide) ?_
      refine lv_iadd hx hb dX8_answerTo_96 ?_
      refine top_i (show (nI n) + 1 = nI (n + 1) from nI_add n 1) ?_
      refine p_805 C hinX8 hW hS hC.1.lay.k1 l110 dX8_answerTo_97 (fun S6 H locs e1 hW hS => ?_)
      have hF9 : CF S S6 y := by rw [e1]; exact hF.sI hC.1.lay.k1 (by decide)
      have hC9 : CR S6 y dE (iF (mAn1 g gt kk) 1107 (nI (n + 1))) c0 := by rw [e1]; exact hC.wln
      replace hM : MsgAt S6 b x0 (nI gt) (nI kk) x3 x4 x5 x6 x7 := by rw [e1]; exact hM
      clear hC hF e1
      have hF := hF9
      have hC := hC9
      clear hC9 hF9
      refine lv_aload_n hx hb dX8_answerTo_100 rfl (lv_at hl 3 rfl) ?_
      refine lv_iload hx hb dX8_answerTo_101 (lv_at hl 0 rfl) ?_
      refine lv_iload hx hb dX8_answerTo_103 (lv_at hl 1 rfl) ?_
      refine lv_aload_n hx hb dX8_answerTo_105 rfl (lv_at hl 4 rfl) ?_
      refine g_800 C hinX8 hW hC.1.lay.k1 hC.1.lay.r800 l12 dX8_answerTo_106 ?_
      refine k_callVi (As := []) (rest := [.int (mGets g gt kk x4), .int (nI n), .ref (y (40 + kk))]) C hml (c_X9_now (hC.1.lay.tk 6 (by omega))) (cwV 0 hts gX8_answerTo_X9_now rfl rfl rfl (by decide +kernel) ⟨by decide, by decide⟩) hW hS hB ((hC.1.lay.tk 6 (by omega))).1 (pAt_9 ((hC.1.lay.tk 6 (by omega))).2) rfl rfl hl.1 rfl (Nat.le_of_ble_eq_true rfl) dX8_answerTo_109 ⟨Nat.le_of_ble_eq_true rfl, Nat.le_of_ble_eq_true rfl⟩ (fun r9 S7 H locs hp9 hW hS => ?_)
      obtain ⟨e8, e9⟩ := hp9
      rw [e8] at hW
      rw [hC.1.t0 6 (by omega)] at e9
      replace e9 : r9 = mClk (iF (mAn1 g gt kk) 1107 (nI (n + 1))) 6 := e9
      subst e9
      refine lv_aload_n hx hb dX8_answerTo_112 rfl (lv_at hl 4 rfl) ?_
      refine g_804 C hinX8 hW hC.1.lay.k1 l34 dX8_answerTo_113 ?_
      refine top_i (show fI S6 804 (y 1) = (iF (mAn1 g gt kk) 1107 (nI (n + 1))).2.2 1111 from hC.1.ll) ?_
      refine lv_iadd hx hb dX8_answerTo_116 ?_
      refine k_callVv (As := [.int (nI n), .int (mGets g gt kk x4), .int ((mClk (iF (mAn1 g gt kk) 1107 (nI (n + 1))) 6) + ((iF (mAn1 g gt kk) 1107 (nI (n + 1))).2.2 1111))]) (rest := []) C hml (c_X1_lend (g := iF (mAn1 g gt kk) 1107 (nI (n + 1))) (x2 := (mGets g gt kk x4)) (x3 := mClk g 6 + g.2.2 1111) hC hE hk hn hCB (fun z9 => by rw [z9] at c_66; exact absurd c_66 (by decide))) (cwV 3 hts gX8_answerTo_X1_lend rfl rfl rfl (by decide +kernel) ⟨by decide, by decide⟩) hW hS hB ((hC.1.lay.bk kk (by omega))).1 (pAt_1 ((hC.1.lay.bk kk (by omega))).2) rfl rfl hl.1 rfl (Nat.le_of_ble_eq_true rfl) dX8_answerTo_117 ⟨Nat.le_of_ble_eq_true rfl, Nat.le_of_ble_eq_true rfl⟩ (fun S8 H locs hp9 hW hS => ?_)
      obtain ⟨c9, f9, k9, b9, p9⟩ := hp9
      have hF9 := hF.tr f9
      replace hM : MsgAt S8 b x0 (nI gt) (nI kk) x3 x4 x5 x6 x7 := CF.msg f9 hC.1.lay.k7 hM
      clear hC hF
      have hC : CR S8 y dE (iF (kLend (mAn1 g gt kk) n kk (mGets g gt kk x4) (mClk g 6 + g.2.2 1111)) 1107 (nI (n + 1))) c9 := k9
      have hF := hF9
      refine n_6 C hinX6 hW hS hB (show Cond.classLink RX8 53 RX6 ∈ wsX8_answerTo by decide +kernel) (show Cond.instantiable RX6 8 ∈ wsX8_answerTo by decide +kernel) (show Cond.initialized RX6 ∈ wsX8_answerTo by decide +kernel) (Nat.le_of_ble_eq_true rfl) (Nat.le_of_ble_eq_true rfl) dX8_answerTo_120 (fun q S9 H e1 qn hW hS => ?_)
      have hC0 := hC
      have hF0 := hF
      have hM0 := hM
      replace hM : MsgAt S9 b x0 (nI gt) (nI kk) x3 x4 x5 x6 x7 := by rw [e1]; exact (Fr.nO (M := fun _ => False) Fr.rf qn).msg (fun _ _ z => z.elim) hM
      replace hC : CR S9 y dE (iF (kLend (mAn1 g gt kk) n kk (mGets g gt kk x4) (mClk g 6 + g.2.2 1111)) 1107 (nI (n + 1))) c9 := hC.fr0 (by rw [e1]; exact Fr.rf.nO qn) (hW.nd hE.1.2.2)
      replace hF : CF S S9 y := by rw [e1]; exact hF.nO qn
      have hq : IsAt S9 6 q := by rw [e1]; exact nO_is
      have hnew : Fr S8 S9 (fun _ => False) := by rw [e1]; exact Fr.rf.nO qn
      clear e1
      refine lv_dup hx hb dX8_answerTo_123 rfl ?_
      refine lv_aload_n hx hb dX8_answerTo_124 rfl (lv_at hl 5 rfl) ?_
      refine lv_iload hx hb dX8_answerTo_125 (lv_at hl 1 rfl) ?_
      refine lv_iload hx hb dX8_answerTo_127 (lv_at hl 0 rfl) ?_
      refine lv_aload_n hx hb dX8_answerTo_129 rfl (lv_at hl 4 rfl) ?_
      refine g_804 C hinX8 hW hC.1.lay.k1 l34 dX8_answerTo_130 ?_
      refine top_i (show fI S9 804 (y 1) = (iF (kLend (mAn1 g gt kk) n kk (mGets g gt kk x4) (mClk g 6 + g.2.2 1111)) 1107 (nI (n + 1))).2.2 1111 from hC.1.ll) ?_
      refine k_callI (As := [.ref b, .int (mGets g gt kk x4), .int (nI n), .int ((iF (kLend (mAn1 g gt kk) n kk (mGets g gt kk x4) (mClk g 6 + g.2.2 1111)) 1107 (nI (n + 1))).2.2 1111)]) (rest := [.ref q]) C hml (c_X6_init_ hq hM) (cwI 4 hts ggX8_answerTo_X6_init_ rfl rfl rfl (hts (.initialized yX6_init_.cls) (by decide +kernel)) (hts (.methodLink RX8 107 yX6_init_) (by decide +kernel)) (hts (.instanceMethod yX6_init_) (by decide +kernel)) rfl (by decide +kernel) ⟨by decide, by decide⟩) hW hS hB rfl hl.1 rfl (Nat.le_of_ble_eq_true rfl) dX8_answerTo_133 ⟨Nat.le_of_ble_eq_true rfl, Nat.le_of_ble_eq_true rfl⟩ (fun S10 H locs hp9 hW hS => ?_)
      have hfr : Fr S8 S10 (fun _ => False) := hnew.tr hp9.2 (fun b hb z => qn (by rw [← z]; exact hb))
      replace hC : CR S10 y dE (iF (kLend (mAn1 g gt kk) n kk (mGets g gt kk x4) (mClk g 6 + g.2.2 1111)) 1107 (nI (n + 1))) c9 := hC0.fr0 hfr (hW.nd hE.1.2.2)
      replace hF : CF S S10 y := hF0.tr (CF.of hfr (fun b hb z => z.elim))
      replace hM : MsgAt S10 b x0 (nI gt) (nI kk) x3 x4 x5 x6 x7 := hfr.msg (fun _ _ z => z.elim) hM0
      clear hC0 hF0 hnew
      have hp8 := hp9
      exact k_aret C hr hlk hW hS hB ⟨q, c9, rfl, hF, by rw [kAns, if_pos c_66]; exact hC, by rw [kNum, if_pos c_66]; exact hp8.1, by rw [kAns, kN, if_pos c_66, if_pos c_66]; exact b9, p9⟩ (Or.inl ⟨_, rfl⟩) (Nat.le_of_ble_eq_true rfl) (Nat.le_of_ble_eq_true rfl) dX8_answerTo_136
    · have hz9 : (mGets g gt kk x4) = 0 := by
        have r9 := gets_range hw9 hI hg hk ht
        refine Int32.toInt_inj.mp ?_
        have z9 := c_66
        rw [Int32.lt_iff_toInt_lt] at z9
        have : (0 : Int32).toInt = 0 := rfl
        omega
      refine n_6 C hinX6 hW hS hB (show Cond.classLink RX8 53 RX6 ∈ wsX8_answerTo by decide +kernel) (show Cond.instantiable RX6 8 ∈ wsX8_answerTo by decide +kernel) (show Cond.initialized RX6 ∈ wsX8_answerTo by decide +kernel) (Nat.le_of_ble_eq_true rfl) (Nat.le_of_ble_eq_true rfl) dX8_answerTo_69 (fun q S11 H e1 qn hW hS => ?_)
      have hC0 := hC
      have hF0 := hF
      have hM0 := hM
      replace hM : MsgAt S11 b x0 (nI gt) (nI kk) x3 x4 x5 x6 x7 := by rw [e1]; exact (Fr.nO (M := fun _ => False) Fr.rf qn).msg (fun _ _ z => z.elim) hM
      replace hC : CR S11 y dE (mAn1 g gt kk) c0 := hC.fr0 (by rw [e1]; exact Fr.rf.nO qn) (hW.nd hE.1.2.2)
      replace hF : CF S S11 y := by rw [e1]; exact hF.nO qn
      have hq : IsAt S11 6 q := by rw [e1]; exact nO_is
      have hnew : Fr S3 S11 (fun _ => False) := by rw [e1]; exact Fr.rf.nO qn
      clear e1
      refine lv_dup hx hb dX8_answerTo_72 rfl ?_
      refine lv_aload_n hx hb dX8_answerTo_73 rfl (lv_at hl 4 rfl) ?_
      refine lv_iconst (v := 0) hx hb dX8_answerTo_74 (by decide) ?_
      refine lv_iconst (v := (-1)) hx hb dX8_answerTo_75 (by decide) ?_
      refine lv_aload_n hx hb dX8_answerTo_76 rfl (lv_at hl 3 rfl) ?_
      refine g_804 C hinX8 hW hC.1.lay.k1 l34 dX8_answerTo_77 ?_
      refine top_i (show fI S11 804 (y 1) = (mAn1 g gt kk).2.2 1111 from hC.1.ll) ?_
      refine k_callI (As := [.ref b, .int 0, .int (-1), .int ((mAn1 g gt kk).2.2 1111)]) (rest := [.ref q]) C hml (c_X6_init_ hq hM) (cwI 4 hts ggX8_answerTo_X6_init_ rfl rfl rfl (hts (.initialized yX6_init_.cls) (by decide +kernel)) (hts (.methodLink RX8 107 yX6_init_) (by decide +kernel)) (hts (.instanceMethod yX6_init_) (by decide +kernel)) rfl (by decide +kernel) ⟨by decide, by decide⟩) hW hS hB rfl hl.1 rfl (Nat.le_of_ble_eq_true rfl) dX8_answerTo_80 ⟨Nat.le_of_ble_eq_true rfl, Nat.le_of_ble_eq_true rfl⟩ (fun S12 H locs hp9 hW hS => ?_)
      have hfr : Fr S3 S12 (fun _ => False) := hnew.tr hp9.2 (fun b hb z => qn (by rw [← z]; exact hb))
      replace hC : CR S12 y dE (mAn1 g gt kk) c0 := hC0.fr0 hfr (hW.nd hE.1.2.2)
      replace hF : CF S S12 y := hF0.tr (CF.of hfr (fun b hb z => z.elim))
      replace hM : MsgAt S12 b x0 (nI gt) (nI kk) x3 x4 x5 x6 x7 := hfr.msg (fun _ _ z => z.elim) hM0
      clear hC0 hF0 hnew
      have hp8 := hp9
      exact k_aret C hr hlk hW hS hB ⟨q, c0, rfl, hF, by rw [kAns, if_neg c_66]; exact hC, by rw [kNum, if_neg c_66]; rw [hz9]; exact hp8.1, by rw [kAns, kN, if_neg c_66, if_neg c_66]; exact hCB, rfl⟩ (Or.inl ⟨_, rfl⟩) (Nat.le_of_ble_eq_true rfl) (Nat.le_of_ble_eq_true rfl) dX8_answerTo_83
  · refine lv_aload_n hx hb dX8_answerTo_41 rfl (lv_at hl 3 rfl) ?_
    refine g_604 C hinX6 hW hM.1 l97 dX8_answerTo_42 ?_
    refine top_i (show fI S3 604 b = x4 from hM.2.2.2.2.2.1) ?_
    refine lv_goto (tgt := 62) hx hb dX8_answerTo_45 (by decide) ?_
    refine top_i (show x4 = mGets g gt kk x4 by rw [mGets, if_pos (Int32.not_lt.mp c_38)]) ?_
    refine lv_istore (lv' := [(5, .int (mGets g gt kk x4)), (4, .int (mFree g kk)), (3, .ref (y (40 + kk))), (0, .ref (y 1)), (1, .ref b), (2, .ref (y (300 + (8 * gt + kk))))]) hx hb dX8_answerTo_62 hl (by decide) rfl (fun ls hl => ?_)
    refine lv_iload hx hb dX8_answerTo_64 (lv_at hl 0 rfl) ?_
    refine lv_if_gt (tgt := 84) hx hb dX8_answerTo_66 (by decide) (fun c_66 => ?_) (fun c_66 => ?_)
    · refine lv_aload_n hx hb dX8_answerTo_84 rfl (lv_at hl 3 rfl) ?_
      refine g_805 C hinX8 hW hC.1.lay.k1 l110 dX8_answerTo_85 ?_
      refine top_i (show fI S3 805 (y 1) = nI n from (hC.1.ln).trans hnl) ?_
      refine lv_istore (lv' := [(6, .int (nI n)), (5, .int (mGets g gt kk x4)), (4, .int (mFree g kk)), (3, .ref (y (40 + kk))), (0, .ref (y 1)), (1, .ref b), (2, .ref (y (300 + (8 * gt + kk))))]) hx hb dX8_answerTo_88 hl (by decide) rfl (fun ls hl => ?_)
      refine lv_aload_n hx hb dX8_answerTo_90 rfl (lv_at hl 4 rfl) ?_
      refine lv_dup hx hb dX8_answerTo_91 rfl ?_
      refine g_805 C hinX8 hW hC.1.lay.k1 l110 dX8_answerTo_92 ?_
      refine top_i (show fI S3 805 (y 1) = nI n from (hC.1.ln).trans hnl) ?_
      refine lv_iconst (v := 1) hx hb dX8_answerTo_95 (by decide) ?_
      refine lv_iadd hx hb dX8_answerTo_96 ?_
      refine top_i (show (nI n) + 1 = nI (n + 1) from nI_add n 1) ?_
      refine p_805 C hinX8 hW hS hC.1.lay.k1 l110 dX8_answerTo_97 (fun S13 H locs e1 hW hS => ?_)
      have hF9 : CF S S13 y := by rw [e1]; exact hF.sI hC.1.lay.k1 (by decide)
      have hC9 : CR S13 y dE (iF (mAn1 g gt kk) 1107 (nI (n + 1))) c0 := by rw [e1]; exact hC.wln
      replace hM : MsgAt S13 b x0 (nI gt) (nI kk) x3 x4 x5 x6 x7 := by rw [e1]; exact hM
      clear hC hF e1
      have hF := hF9
      have hC := hC9
      clear hC9 hF9
      refine lv_aload_n hx hb dX8_answerTo_100 rfl (lv_at hl 3 rfl) ?_
      refine lv_iload hx hb dX8_answerTo_101 (lv_at hl 0 rfl) ?_
      refine lv_iload hx hb dX8_answerTo_103 (lv_at hl 1 rfl) ?_
      refine lv_aload_n hx hb dX8_answerTo_105 rfl (lv_at hl 4 rfl) ?_
      refine g_800 C hinX8 hW hC.1.lay.k1 hC.1.lay.r800 l12 dX8_answerTo_106 ?_
      refine k_callVi (As := []) (rest := [.int (mGets g gt kk x4), .int (nI n), .ref (y (40 + kk))]) C hml (c_X9_now (hC.1.lay.tk 6 (by omega))) (cwV 0 hts gX8_answerTo_X9_now rfl rfl rfl (by decide +kernel) ⟨by decide, by decide⟩) hW hS hB ((hC.1.lay.tk 6 (by omega))).1 (pAt_9 ((hC.1.lay.tk 6 (by omega))).2) rfl rfl hl.1 rfl (Nat.le_of_ble_eq_true rfl) dX8_answerTo_109 ⟨Nat.le_of_ble_eq_true rfl, Nat.le_of_ble_eq_true rfl⟩ (fun r9 S14 H locs hp9 hW hS => ?_)
      obtain ⟨e8, e9⟩ := hp9
      rw [e8] at hW
      rw [hC.1.t0 6 (by omega)] at e9
      replace e9 : r9 = mClk (iF (mAn1 g gt kk) 1107 (nI (n + 1))) 6 := e9
      subst e9
      refine lv_aload_n hx hb dX8_answerTo_112 rfl (lv_at hl 4 rfl) ?_
      refine g_804 C hinX8 hW hC.1.lay.k1 l34 dX8_answerTo_113 ?_
      refine top_i (show fI S13 804 (y 1) = (iF (mAn1 g gt kk) 1107 (nI (n + 1))).2.2 1111 from hC.1.ll) ?_
      refine lv_iadd hx hb dX8_answerTo_116 ?_
      refine k_callVv (As := [.int (nI n), .int (mGets g gt kk x4), .int ((mClk (iF (mAn1 g gt kk) 1107 (nI (n + 1))) 6) + ((iF (mAn1 g gt kk) 1107 (nI (n + 1))).2.2 1111))]) (rest := []) C hml (c_X1_lend (g := iF (mAn1 g gt kk) 1107 (nI (n + 1))) (x2 := (mGets g gt kk x4)) (x3 := mClk g 6 + g.2.2 1111) hC hE hk hn hCB (fun z9 => by rw [z9] at c_66; exact absurd c_66 (by decide))) (cwV 3 hts gX8_answerTo_X1_lend rfl rfl rfl (by decide +kernel) ⟨by decide, by decide⟩) hW hS hB ((hC.1.lay.bk kk (by omega))).1 (pAt_1 ((hC.1.lay.bk kk (by omega))).2) rfl rfl hl.1 rfl (Nat.le_of_ble_eq_true rfl) dX8_answerTo_117 ⟨Nat.le_of_ble_eq_true rfl, Nat.le_of_ble_eq_true rfl⟩ (fun S15 H locs hp9 hW hS => ?_)
      obtain ⟨c9, f9, k9, b9, p9⟩ := hp9
      have hF9 := hF.tr f9
      replace hM : MsgAt S15 b x0 (nI gt) (nI kk) x3 x4 x5 x6 x7 := CF.msg f9 hC.1.lay.k7 hM
      clear hC hF
      have hC : CR S15 y dE (iF (kLend (mAn1 g gt kk) n kk (mGets g gt kk x4) (mClk g 6 + g.2.2 1111)) 1107 (nI (n + 1))) c9 := k9
      have hF := hF9
      refine n_6 C hinX6 hW hS hB (show Cond.classLink RX8 53 RX6 ∈ wsX8_answerTo by decide +kernel) (show Cond.instantiable RX6 8 ∈ wsX8_answerTo by decide +kernel) (show Cond.initialized RX6 ∈ wsX8_answerTo by decide +kernel) (Nat.le_of_ble_eq_true rfl) (Nat.le_of_ble_eq_true rfl) dX8_answerTo_120 (fun q S16 H e1 qn hW hS => ?_)
      have hC0 := hC
      have hF0 := hF
      have hM0 := hM
      replace hM : MsgAt S16 b x0 (nI gt) (nI kk) x3 x4 x5 x6 x7 := by rw [e1]; exact (Fr.nO (M := fun _ => False) Fr.rf qn).msg (fun _ _ z => z.elim) hM
      replace hC : CR S16 y dE (iF (kLend (mAn1 g gt kk) n kk (mGets g gt kk x4) (mClk g 6 + g.2.2 1111)) 1107 (nI (n + 1))) c9 := hC.fr0 (by rw [e1]; exact Fr.rf.nO qn) (hW.nd hE.1.2.2)
      replace hF : CF S S16 y := by rw [e1]; exact hF.nO qn
      have hq : IsAt S16 6 q := by rw [e1]; exact nO_is
      have hnew : Fr S15 S16 (fun _ => False) := by rw [e1]; exact Fr.rf.nO qn
      clear e1
      refine lv_dup hx hb dX8_answerTo_123 rfl ?_
      refine lv_aload_n hx hb dX8_answerTo_124 rfl (lv_at hl 5 rfl) ?_
      refine lv_iload hx hb dX8_answerTo_125 (lv_at hl 1 rfl) ?_
      refine lv_iload hx hb dX8_answerTo_127 (lv_at hl 0 rfl) ?_
      refine lv_aload_n hx hb dX8_answerTo_129 rfl (lv_at hl 4 rfl) ?_
      refine g_804 C hinX8 hW hC.1.lay.k1 l34 dX8_answerTo_130 ?_
      refine top_i (show fI S16 804 (y 1) = (iF (kLend (mAn1 g gt kk) n kk (mGets g gt kk x4) (mClk g 6 + g.2.2 1111)) 1107 (nI (n + 1))).2.2 1111 from hC.1.ll) ?_
      refine k_callI (As := [.ref b, .int (mGets g gt kk x4), .int (nI n), .int ((iF (kLend (mAn1 g gt kk) n kk (mGets g gt kk x4) (mClk g 6 + g.2.2 1111)) 1107 (nI (n + 1))).2.2 1111)]) (rest := [.ref q]) C hml (c_X6_init_ hq hM) (cwI 4 hts ggX8_answerTo_X6_init_ rfl rfl rfl (hts (.initialized yX6_init_.cls) (by decide +kernel)) (hts (.methodLink RX8 107 yX6_init_) (by decide +kernel)) (hts (.instanceMethod yX6_init_) (by decide +kernel)) rfl (by decide +kernel) ⟨by decide, by decide⟩) hW hS hB rfl hl.1 rfl (Nat.le_of_ble_eq_true rfl) dX8_answerTo_133 ⟨Nat.le_of_ble_eq_true rfl, Nat.le_of_ble_eq_true rfl⟩ (fun S17 H locs hp9 hW hS => ?_)
      have hfr : Fr S15 S17 (fun _ => False) := hnew.tr hp9.2 (fun b hb z => qn (by rw [← z]; exact hb))
      replace hC : CR S17 y dE (iF (kLend (mAn1 g gt kk) n kk (mGets g gt kk x4) (mClk g 6 + g.2.2 1111)) 1107 (nI (n + 1))) c9 := hC0.fr0 hfr (hW.nd hE.1.2.2)
      replace hF : CF S S17 y := hF0.tr (CF.of hfr (fun b hb z => z.elim))
      replace hM : MsgAt S17 b x0 (nI gt) (nI kk) x3 x4 x5 x6 x7 := hfr.msg (fun _ _ z => z.elim) hM0
      clear hC0 hF0 hnew
      have hp8 := hp9
      exact k_aret C hr hlk hW hS hB ⟨q, c9, rfl, hF, by rw [kAns, if_pos c_66]; exact hC, by rw [kNum, if_pos c_66]; exact hp8.1, by rw [kAns, kN, if_pos c_66, if_pos c_66]; exact b9, p9⟩ (Or.inl ⟨_, rfl⟩) (Nat.le_of_ble_eq_true rfl) (Nat.le_of_ble_eq_true rfl) dX8_answerTo_136
    · have hz9 : (mGets g gt kk x4) = 0 := by
        have r9 := gets_range hw9 hI hg hk ht
        refine Int32.toInt_inj.mp ?_
        have z9 := c_66
        rw [Int32.lt_iff_toInt_lt] at z9
        have : (0 : Int32).toInt = 0 := rfl
        omega
      refine n_6 C hinX6 hW hS hB (show Cond.classLink RX8 53 RX6 ∈ wsX8_answerTo by decide +kernel) (show Cond.instantiable RX6 8 ∈ wsX8_answerTo by decide +kernel) (show Cond.initialized RX6 ∈ wsX8_answerTo by decide +kernel) (Nat.le_of_ble_eq_true rfl) (Nat.le_of_ble_eq_true rfl) dX8_answerTo_69 (fun q S18 H e1 qn hW hS => ?_)
      have hC0 := hC
      have hF0 := hF
      have hM0 := hM
      replace hM : MsgAt S18 b x0 (nI gt) (nI kk) x3 x4 x5 x6 x7 := by rw [e1]; exact (Fr.nO (M := fun _ => False) Fr.rf qn).msg (fun _ _ z => z.elim) hM
      replace hC : CR S18 y dE (mAn1 g gt kk) c0 := hC.fr0 (by rw [e1]; exact Fr.rf.nO qn) (hW.nd hE.1.2.2)
      replace hF : CF S S18 y := by rw [e1]; exact hF.nO qn
      have hq : IsAt S18 6 q := by rw [e1]; exact nO_is
      have hnew : Fr S3 S18 (fun _ => False) := by rw [e1]; exact Fr.rf.nO qn
      clear e1
      refine lv_dup hx hb dX8_answerTo_72 rfl ?_
      refine lv_aload_n hx hb dX8_answerTo_73 rfl (lv_at hl 4 rfl) ?_
      refine lv_iconst (v := 0) hx hb dX8_answerTo_74 (by decide) ?_
      refine lv_iconst (v := (-1)) hx hb dX8_answerTo_75 (by decide) ?_
      refine lv_aload_n hx hb dX8_answerTo_76 rfl (lv_at hl 3 rfl) ?_
      refine g_804 C hinX8 hW hC.1.lay.k1 l34 dX8_answerTo_77 ?_
      refine top_i (show fI S18 804 (y 1) = (mAn1 g gt kk).2.2 1111 from hC.1.ll) ?_
      refine k_callI (As := [.ref b, .int 0, .int (-1), .int ((mAn1 g gt kk).2.2 1111)]) (rest := [.ref q]) C hml (c_X6_init_ hq hM) (cwI 4 hts ggX8_answerTo_X6_init_ rfl rfl rfl (hts (.initialized yX6_init_.cls) (by decide +kernel)) (hts (.methodLink RX8 107 yX6_init_) (by decide +kernel)) (hts (.instanceMethod yX6_init_) (by decide +kernel)) rfl (by decide +kernel) ⟨by decide, by decide⟩) hW hS hB rfl hl.1 rfl (Nat.le_of_ble_eq_true rfl) dX8_answerTo_80 ⟨Nat.le_of_ble_eq_true rfl, Nat.le_of_ble_eq_true rfl⟩ (fun S19 H locs hp9 hW hS => ?_)
      have hfr : Fr S3 S19 (fun _ => False) := hnew.tr hp9.2 (fun b hb z => qn (by rw [← z]; exact hb))
      replace hC : CR S19 y dE (mAn1 g gt kk) c0 := hC0.fr0 hfr (hW.nd hE.1.2.2)
      replace hF : CF S S19 y := hF0.tr (CF.of hfr (fun b hb z => z.elim))
      replace hM : MsgAt S19 b x0 (nI gt) (nI kk) x3 x4 x5 x6 x7 := hfr.msg (fun _ _ z => z.elim) hM0
      clear hC0 hF0 hnew
      have hp8 := hp9
      exact k_aret C hr hlk hW hS hB ⟨q, c0, rfl, hF, by rw [kAns, if_neg c_66]; exact hC, by rw [kNum, if_neg c_66]; rw [hz9]; exact hp8.1, by rw [kAns, kN, if_neg c_66, if_neg c_66]; exact hCB, rfl⟩ (Or.inl ⟨_, rfl⟩) (Nat.le_of_ble_eq_true rfl) (Nat.le_of_ble_eq_true rfl) dX8_answerTo_83
