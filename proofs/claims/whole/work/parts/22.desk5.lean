theorem hs_same {g g2 : MS} {gt kk n : Nat} (h1 : g2.1 27 = g.1 27) (h2 : g2.1 8 = g.1 8) : hs g2 gt kk n = hs g gt kk n := by
  unfold hs
  exact fil_congr (fun x _ => by unfold mHold; rw [h1, h2])
theorem mWorkE_27 (q : MS × Int32) (z : Int32) (gt k n : Nat) {j : Nat} (h : j = 27 ∨ j = 8 ∨ j = 28 ∨ j = 29 ∨ j = 30 ∨ j = 20 ∨ j = 9 ∨ j = 10) : (mWorkE q z gt k n).1.1 j = q.1.1 j := by
  unfold mWorkE
  split
  · show (mSend (mOpenUp (mW1 q.1 gt k) gt k) _ _ _ _ _ _ _).1.1 j = _
    rw [mSend_o _ _ _ _ _ _ _ _ (by omega) (by omega)]
    rcases h with rfl | rfl | rfl | rfl | rfl | rfl | rfl | rfl <;> rfl
  · rcases h with rfl | rfl | rfl | rfl | rfl | rfl | rfl | rfl <;> rfl
theorem mWorkE_a {q : MS × Int32} {gt k n : Nat} (z : Int32) (h : 0 < mMore (mW1 q.1 gt k) gt k n ∧ mMayAsk (mW1 q.1 gt k) gt k) : (mWorkE q z gt k n).1 = (mAskS (mW1 q.1 gt k) gt k (mMore (mW1 q.1 gt k) gt k n)).1 := by rw [mWorkE, if_pos h]
theorem mWorkE_b {q : MS × Int32} {gt k n : Nat} (z : Int32) (h : ¬ (0 < mMore (mW1 q.1 gt k) gt k n ∧ mMayAsk (mW1 q.1 gt k) gt k)) : (mWorkE q z gt k n).1 = mW1 q.1 gt k := by rw [mWorkE, if_neg h]
set_option maxRecDepth 100000 in
set_option maxHeartbeats 1000000 in
theorem c_X2_settle {l : Launch} {D : va_G} {cy : Nat → ClassId} {B : Nat} {s0 : State} {S : PS} {y : Nat → Nat} {dE mi : Nat} {g : MS} {c0 : CS} {gt kk : Nat} {n : Nat} {L : List Nat} (hC : CR S y dE g c0) (hE : EnvC dE mi B s0) (hg : gt < 6) (hk : kk < 8) (hn3 : n ≤ 300) (hL : cP c0 (8 * gt + kk) = L) (hLs : L = hs g gt kk n) (hm : MsgOk g) : KV l yX2_settle wsX2_settle ({ frames := 4, cells := (L.length + 1), slots := (8 * L.length + 8), locals := 133 }) D cy B s0 [.ref (y (100 + (8 * gt + kk))), .int (g.1 20 gt), .int (mClk g gt), .ref (y 2)] S (fun S2 => ∃ c2, CF S S2 y ∧ CR S2 y dE (mWorkE (mGB g gt kk n) 0 gt kk n).1 c2 ∧ CsD c0 c2 (8 * gt + kk) (hs (mWorkE (mGB g gt kk n) 0 gt kk n).1 gt kk n)) (L.length + 1) (8 * L.length + 8) := by
  refine k_body (own := RX2) (cc := cX2_settle) (maxL := 5) (ret := none) rfl (by decide) rfl (Nat.le_of_ble_eq_true rfl) ?_
  intro p e s m below meth c C hml hr hlk hnm hB hW ls hl
  obtain ⟨hx, hb, hts, hown, hK, hEn⟩ := id C
  have hS : va_S (Aw B) s.heap s.heap [] := va_S.rf
  have hinX2 : ∀ w ∈ wsX20, w ∈ wsX2_settle := by decide +kernel
  have hinX6 : ∀ w ∈ wsX60, w ∈ wsX2_settle := by decide +kernel
  have l18 : Cond.fieldLink RX2 18 "LeaseGates$Desk" "gate" "I" ∈ wsX2_settle := by decide +kernel
  have l22 : Cond.fieldLink RX2 22 "LeaseGates$Desk" "key" "I" ∈ wsX2_settle := by decide +kernel
  have l28 : Cond.fieldLink RX2 28 "LeaseGates$Desk" "demand" "I" ∈ wsX2_settle := by decide +kernel
  have l31 : Cond.fieldLink RX2 31 "LeaseGates$Desk" "use" "I" ∈ wsX2_settle := by decide +kernel
  have l34 : Cond.fieldLink RX2 34 "LeaseGates$Desk" "asks" "I" ∈ wsX2_settle := by decide +kernel
  have l37 : Cond.fieldLink RX2 37 "LeaseGates$Desk" "open" "Z" ∈ wsX2_settle := by decide +kernel
  have l41 : Cond.fieldLink RX2 41 "LeaseGates$Desk" "openSince" "I" ∈ wsX2_settle := by decide +kernel
  have hl : lv_has ls 5 [(0, .ref (y (100 + (8 * gt + kk)))), (1, .int (g.1 20 gt)), (2, .int (mClk g gt)), (3, .ref (y 2))] := hl
  have hF : CF S S y := CF.rf
  refine lv_aload_n hx hb dX2_settle_0 rfl (lv_at hl 0 rfl) ?_
  refine lv_iload_n hx hb dX2_settle_1 rfl (lv_at hl 1 rfl) ?_
  refine lv_iload_n hx hb dX2_settle_2 rfl (lv_at hl 2 rfl) ?_
  refine lv_aload_n hx hb dX2_settle_3 rfl (lv_at hl 3 rfl) ?_
  refine k_callVv (As := [.int (g.1 20 gt), .int (mClk g gt), .ref (y 2)]) (rest := []) C hml (c_X2_giveBack hC hE hg hk hn3 hL hLs hm) (cwV 3 hts gX2_settle_X2_giveBack rfl rfl rfl (by decide +kernel) ⟨Nat.le_of_ble_eq_true rfl, Nat.le_of_ble_eq_true rfl⟩) hW hS hB ((hC.1.lay.ek (8 * gt + kk) (by omega))).1 (pAt_2 ((hC.1.lay.ek (8 * gt + kk) (by omega))).2) rfl rfl hl.1 rfl (Nat.le_of_ble_eq_true rfl) dX2_settle_4 ⟨by show _ ≤ L.length + 1; omega, by show _ ≤ 8 * L.length + 8; omega⟩ (fun S1 H locs hp9 hW hS => ?_)
  obtain ⟨c9, f9, k9, hD9⟩ := hp9
  have hF9 := hF.tr f9
  clear hF hC
  have hC := k9
  have hF := hF9
  have hI : GBI g (mGB g gt kk n).1 := by rw [mGB_hs]; exact gbFold_I gt kk _ g
  have hcg : mClk (mGB g gt kk n).1 gt = mClk g gt := by unfold mClk; rw [hI.2.1]
  have hm1 : MsgOk (mGB g gt kk n).1 := mGB_ok hm gt kk n
  refine lv_aload_n hx hb dX2_settle_7 rfl (lv_at hl 0 rfl) ?_
  refine lv_aload_n hx hb dX2_settle_8 rfl (lv_at hl 0 rfl) ?_
  refine g_204 C hinX2 hW (hC.1.lay.ek (8 * gt + kk) (by omega)) l31 dX2_settle_9 ?_
  refine top_i (show fI S1 204 (y (100 + (8 * gt + kk))) = ((mGB g gt kk n).1).1 22 (8 * gt + kk) from hC.1.d4 (8 * gt + kk) (by omega)) ?_
  refine lv_aload_n hx hb dX2_settle_12 rfl (lv_at hl 0 rfl) ?_
  refine g_203 C hinX2 hW (hC.1.lay.ek (8 * gt + kk) (by omega)) l28 dX2_settle_13 ?_
  refine top_i (show fI S1 203 (y (100 + (8 * gt + kk))) = ((mGB g gt kk n).1).1 21 (8 * gt + kk) from hC.1.d3 (8 * gt + kk) (by omega)) ?_
  refine lv_iconst (v := 2) hx hb dX2_settle_16 (by decide) ?_
  refine lv_idiv hx hb dX2_settle_17 (by decide) ?_
  refine lv_iadd hx hb dX2_settle_18 ?_
  refine p_203 C hinX2 hW hS (hC.1.lay.ek (8 * gt + kk) (by omega)) l28 dX2_settle_19 (fun S2 H locs e1 hW hS => ?_)
  have hF9 : CF S S2 y := by rw [e1]; exact hF.sI (hC.1.lay.ek (8 * gt + kk) (by omega)) (by decide)
  have hC9 : CR S2 y dE (iI ((mGB g gt kk n).1) 21 (8 * gt + kk) ((((mGB g gt kk n).1).1 22 (8 * gt + kk)) + ((((mGB g gt kk n).1).1 21 (8 * gt + kk)) / 2))) c9 := by rw [e1]; exact hC.wd3
  clear hC hF e1
  have hF := hF9
  have hC := hC9
  clear hC9 hF9
  refine lv_aload_n hx hb dX2_settle_22 rfl (lv_at hl 0 rfl) ?_
  refine lv_iconst (v := 0) hx hb dX2_settle_23 (by decide) ?_
  refine p_204 C hinX2 hW hS (hC.1.lay.ek (8 * gt + kk) (by omega)) l31 dX2_settle_24 (fun S3 H locs e1 hW hS => ?_)
  have hF9 : CF S S3 y := by rw [e1]; exact hF.sI (hC.1.lay.ek (8 * gt + kk) (by omega)) (by decide)
  have hC9 : CR S3 y dE (iI (iI ((mGB g gt kk n).1) 21 (8 * gt + kk) ((((mGB g gt kk n).1).1 22 (8 * gt + kk)) + ((((mGB g gt kk n).1).1 21 (8 * gt + kk)) / 2))) 22 (8 * gt + kk) 0) c9 := by rw [e1]; exact hC.wd4
  clear hC hF e1
  have hF := hF9
  have hC := hC9
  clear hC9 hF9
  have hC : CR S3 y dE (mW1 (mGB g gt kk n).1 gt kk) c9 := hC
  refine lv_iconst (v := 2) hx hb dX2_settle_27 (by decide) ?_
  refine lv_aload_n hx hb dX2_settle_28 rfl (lv_at hl 0 rfl) ?_
  refine g_203 C hinX2 hW (hC.1.lay.ek (8 * gt + kk) (by omega)) l28 dX2_settle_29 ?_
  refine top_i (show fI S3 203 (y (100 + (8 * gt + kk))) = (mW1 (mGB g gt kk n).1 gt kk).1 21 (8 * gt + kk) from hC.1.d3 (8 * gt + kk) (by omega)) ?_
  refine lv_imul hx hb dX2_settle_32 ?_
  refine lv_aload_n hx hb dX2_settle_33 rfl (lv_at hl 0 rfl) ?_
  refine lv_iload_n hx hb dX2_settle_34 rfl (lv_at hl 2 rfl) ?_
  refine k_callVi (As := [.int (mClk g gt)]) (rest := [.int (2 * ((mW1 (mGB g gt kk n).1 gt kk).1 21 (8 * gt + kk)))]) C hml (c_X2_liveTokens hC hE hg hk hD9.1) (cwV 1 hts gX2_settle_X2_liveTokens rfl rfl rfl (by decide +kernel) ⟨Nat.le_of_ble_eq_true rfl, Nat.le_of_ble_eq_true rfl⟩) hW hS hB ((hC.1.lay.ek (8 * gt + kk) (by omega))).1 (pAt_2 ((hC.1.lay.ek (8 * gt + kk) (by omega))).2) rfl rfl hl.1 rfl (Nat.le_of_ble_eq_true rfl) dX2_settle_35 ⟨by show _ ≤ L.length + 1; omega, by show _ ≤ 8 * L.length + 8; omega⟩ (fun r9 S4 H locs hp9 hW hS => ?_)
  obtain ⟨e8, e9⟩ := hp9
  rw [e8] at hW
  replace e9 := e9.trans (show _ = mLiveSum (mW1 (mGB g gt kk n).1 gt kk) gt kk n by rw [← hcg]; exact lSum_hs (mW1 (mGB g gt kk n).1 gt kk) gt kk n)
  subst e9
  refine lv_isub hx hb dX2_settle_38 ?_
  refine top_i (show (2 * ((mW1 (mGB g gt kk n).1 gt kk).1 21 (8 * gt + kk))) - (mLiveSum (mW1 (mGB g gt kk n).1 gt kk) gt kk n) = mMore (mW1 (mGB g gt kk n).1 gt kk) gt kk n from rfl) ?_
  refine lv_istore (lv' := [(4, .int (mMore (mW1 (mGB g gt kk n).1 gt kk) gt kk n)), (0, .ref (y (100 + (8 * gt + kk)))), (1, .int (g.1 20 gt)), (2, .int (mClk g gt)), (3, .ref (y 2))]) hx hb dX2_settle_39 hl (by decide) rfl (fun ls hl => ?_)
  refine lv_iload hx hb dX2_settle_41 (lv_at hl 0 rfl) ?_
  refine lv_if_le (tgt := 100) hx hb dX2_settle_43 (by decide) (fun c_43 => ?_) (fun c_43 => ?_)
  · exact k_vret C hr hlk hW hS hB ⟨c9, hF, by rw [mWorkE_b (q := mGB g gt kk n) 0 (fun z => absurd z.1 (Int32.not_lt.mpr c_43))]; exact hC, by rw [show hs (mWorkE (mGB g gt kk n) 0 gt kk n).1 gt kk n = hs (mGB g gt kk n).1 gt kk n from hs_same (mWorkE_27 _ _ _ _ _ (by decide)) (mWorkE_27 _ _ _ _ _ (by decide))]; exact hD9⟩ (by omega) (by omega) dX2_settle_100
  · refine lv_aload_n hx hb dX2_settle_46 rfl (lv_at hl 1 rfl) ?_
    refine lv_iload_n hx hb dX2_settle_47 rfl (lv_at hl 3 rfl) ?_
    refine k_callVi (As := [.int (mClk g gt)]) (rest := []) C hml (c_X2_mayAsk (hC.1.lay.ek (8 * gt + kk) (by omega))) (cwV 1 hts gX2_settle_X2_mayAsk rfl rfl rfl (by decide +kernel) ⟨Nat.le_of_ble_eq_true rfl, Nat.le_of_ble_eq_true rfl⟩) hW hS hB ((hC.1.lay.ek (8 * gt + kk) (by omega))).1 (pAt_2 ((hC.1.lay.ek (8 * gt + kk) (by omega))).2) rfl rfl hl.1 rfl (Nat.le_of_ble_eq_true rfl) dX2_settle_48 ⟨by show _ ≤ L.length + 1; omega, by show _ ≤ 8 * L.length + 8; omega⟩ (fun r9 S5 H locs hp9 hW hS => ?_)
    obtain ⟨e8, e9⟩ := hp9
    rw [e8] at hW
    rw [hC.1.d6 (8 * gt + kk) (by omega), hC.1.d7 (8 * gt + kk) (by omega), ← hcg] at e9
    replace e9 : r9 = if mMayAsk (mW1 (mGB g gt kk n).1 gt kk) gt kk then 1 else 0 := e9
    subst e9
    refine lv_if_eq (tgt := 100) hx hb dX2_settle_51 (by decide) (fun c_51 => ?_) (fun c_51 => ?_)
    · have q_51 : ¬ (mMayAsk (mW1 (mGB g gt kk n).1 gt kk) gt kk) := ite0.mp c_51
      exact k_vret C hr hlk hW hS hB ⟨c9, hF, by rw [mWorkE_b (q := mGB g gt kk n) 0 (fun z => q_51 z.2)]; exact hC, by rw [show hs (mWorkE (mGB g gt kk n) 0 gt kk n).1 gt kk n = hs (mGB g gt kk n).1 gt kk n from hs_same (mWorkE_27 _ _ _ _ _ (by decide)) (mWorkE_27 _ _ _ _ _ (by decide))]; exact hD9⟩ (by omega) (by omega) dX2_settle_100
    · have q_51 : (mMayAsk (mW1 (mGB g gt kk n).1 gt kk) gt kk) := ite1.mp c_51
      refine lv_aload_n hx hb dX2_settle_54 rfl (lv_at hl 1 rfl) ?_
      refine lv_dup hx hb dX2_settle_55 rfl ?_
      refine g_205 C hinX2 hW (hC.1.lay.ek (8 * gt + kk) (by omega)) l34 dX2_settle_56 ?_
      refine top_i (show fI S3 205 (y (100 + (8 * gt + kk))) = (mW1 (mGB g gt kk n).1 gt kk).1 23 (8 * gt + kk) from hC.1.d5 (8 * gt + kk) (by omega)) ?_
      refine lv_iconst (v := 1) hx hb dX2_settle_59 (by decide) ?_
      refine lv_iadd hx hb dX2_settle_60 ?_
      refine p_205 C hinX2 hW hS (hC.1.lay.ek (8 * gt + kk) (by omega)) l34 dX2_settle_61 (fun S6 H locs e1 hW hS => ?_)
      have hF9 : CF S S6 y := by rw [e1]; exact hF.sI (hC.1.lay.ek (8 * gt + kk) (by omega)) (by decide)
      have hC9 : CR S6 y dE (iI (mW1 (mGB g gt kk n).1 gt kk) 23 (8 * gt + kk) (((mW1 (mGB g gt kk n).1 gt kk).1 23 (8 * gt + kk)) + 1)) c9 := by rw [e1]; exact hC.wd5
      clear hC hF e1
      have hF := hF9
      have hC := hC9
      clear hC9 hF9
      refine lv_aload_n hx hb dX2_settle_64 rfl (lv_at hl 1 rfl) ?_
      refine lv_iconst (v := 1) hx hb dX2_settle_65 (by decide) ?_
      refine p_206 C hinX2 hW hS (by decide) (hC.1.lay.ek (8 * gt + kk) (by omega)) l37 dX2_settle_66 (fun S7 H locs e1 hW hS => ?_)
      have hF9 : CF S S7 y := by rw [e1]; exact hF.sI (hC.1.lay.ek (8 * gt + kk) (by omega)) (by decide)
      have hC9 : CR S7 y dE (iI (iI (mW1 (mGB g gt kk n).1 gt kk) 23 (8 * gt + kk) (((mW1 (mGB g gt kk n).1 gt kk).1 23 (8 * gt + kk)) + 1)) 24 (8 * gt + kk) 1) c9 := by rw [e1]; exact hC.wd6
      clear hC hF e1
      have hF := hF9
      have hC := hC9
      clear hC9 hF9
      refine lv_aload_n hx hb dX2_settle_69 rfl (lv_at hl 1 rfl) ?_
      refine lv_iload_n hx hb dX2_settle_70 rfl (lv_at hl 3 rfl) ?_
      refine p_207 C hinX2 hW hS (hC.1.lay.ek (8 * gt + kk) (by omega)) l41 dX2_settle_71 (fun S8 H locs e1 hW hS => ?_)
      have hF9 : CF S S8 y := by rw [e1]; exact hF.sI (hC.1.lay.ek (8 * gt + kk) (by omega)) (by decide)
      have hC9 : CR S8 y dE (iI (iI (iI (mW1 (mGB g gt kk n).1 gt kk) 23 (8 * gt + kk) (((mW1 (mGB g gt kk n).1 gt kk).1 23 (8 * gt + kk)) + 1)) 24 (8 * gt + kk) 1) 25 (8 * gt + kk) (mClk g gt)) c9 := by rw [e1]; exact hC.wd7
      clear hC hF e1
      have hF := hF9
      have hC := hC9
      clear hC9 hF9
      have hC : CR S8 y dE (mOpenUp (mW1 (mGB g gt kk n).1 gt kk) gt kk) c9 := by rw [mOpenUp, show mClk (mW1 (mGB g gt kk n).1 gt kk) gt = mClk g gt from hcg]; exact hC
      refine lv_aload_n hx hb dX2_settle_74 rfl (lv_at hl 4 rfl) ?_
      refine n_6 C hinX6 hW hS hB (show Cond.classLink RX2 94 RX6 ∈ wsX2_settle by decide +kernel) (show Cond.instantiable RX6 8 ∈ wsX2_settle by decide +kernel) (show Cond.initialized RX6 ∈ wsX2_settle by decide +kernel) (by show _ ≤ L.length + 1; omega) (by show _ ≤ 8 * L.length + 8; omega) dX2_settle_75 (fun q S9 H e1 qn hW hS => ?_)
      have hC0 := hC
      have hF0 := hF
      replace hC : CR S9 y dE (mOpenUp (mW1 (mGB g gt kk n).1 gt kk) gt kk) c9 := hC.fr0 (by rw [e1]; exact Fr.rf.nO qn) (hW.nd hE.1.2.2)
      replace hF : CF S S9 y := by rw [e1]; exact hF.nO qn
      have hq : IsAt S9 6 q := by rw [e1]; exact nO_is
      have hnew : Fr S8 S9 (fun _ => False) := by rw [e1]; exact Fr.rf.nO qn
      clear e1
      refine lv_dup hx hb dX2_settle_78 rfl ?_
      refine lv_aload_n hx hb dX2_settle_79 rfl (lv_at hl 1 rfl) ?_
      refine g_200 C hinX2 hW (hC.1.lay.ek (8 * gt + kk) (by omega)) l18 dX2_settle_80 ?_
      refine top_i (show fI S9 200 (y (100 + (8 * gt + kk))) = nI gt from hC.1.lay.e0 gt kk (by omega) (by omega)) ?_
      refine lv_aload_n hx hb dX2_settle_83 rfl (lv_at hl 1 rfl) ?_
      refine g_201 C hinX2 hW (hC.1.lay.ek (8 * gt + kk) (by omega)) l22 dX2_settle_84 ?_
      refine top_i (show fI S9 201 (y (100 + (8 * gt + kk))) = nI kk from hC.1.lay.e1 gt kk (by omega) (by omega)) ?_
      refine lv_iload_n hx hb dX2_settle_87 rfl (lv_at hl 2 rfl) ?_
      refine lv_aload_n hx hb dX2_settle_88 rfl (lv_at hl 1 rfl) ?_
      refine g_205 C hinX2 hW (hC.1.lay.ek (8 * gt + kk) (by omega)) l34 dX2_settle_89 ?_
      refine top_i (show fI S9 205 (y (100 + (8 * gt + kk))) = (mOpenUp (mW1 (mGB g gt kk n).1 gt kk) gt kk).1 23 (8 * gt + kk) from hC.1.d5 (8 * gt + kk) (by omega)) ?_
      refine lv_iload hx hb dX2_settle_92 (lv_at hl 0 rfl) ?_
      refine k_callI (As := [.int (nI gt), .int (nI kk), .int (g.1 20 gt), .int ((mOpenUp (mW1 (mGB g gt kk n).1 gt kk) gt kk).1 23 (8 * gt + kk)), .int (mMore (mW1 (mGB g gt kk n).1 gt kk) gt kk n)]) (rest := [.ref q, .ref (y 2)]) C hml (c_X6_init hq) (cwI 5 hts ggX2_settle_X6_init rfl rfl rfl (hts (.initialized yX6_init.cls) (by decide +kernel)) (hts (.methodLink RX2 96 yX6_init) (by decide +kernel)) (hts (.instanceMethod yX6_init) (by decide +kernel)) rfl (by decide +kernel) ⟨Nat.le_of_ble_eq_true rfl, Nat.le_of_ble_eq_true rfl⟩) hW hS hB rfl hl.1 rfl (Nat.le_of_ble_eq_true rfl) dX2_settle_94 ⟨by show _ ≤ L.length + 1; omega, by show _ ≤ 8 * L.length + 8; omega⟩ (fun S10 H locs hp9 hW hS => ?_)
      have hfr : Fr S8 S10 (fun _ => False) := hnew.tr hp9.2 (fun b hb z => qn (by rw [← z]; exact hb))
      replace hC : CR S10 y dE (mOpenUp (mW1 (mGB g gt kk n).1 gt kk) gt kk) c9 := hC0.fr0 hfr (hW.nd hE.1.2.2)
      replace hF : CF S S10 y := hF0.tr (CF.of hfr (fun b hb z => z.elim))
      clear hC0 hF0 hnew
      refine k_callVv (As := [.ref q]) (rest := []) C hml (c_X7_send (g := (mOpenUp (mW1 (mGB g gt kk n).1 gt kk) gt kk)) hC hm1 hp9.1) (cwV 1 hts gX2_settle_X7_send rfl rfl rfl (by decide +kernel) ⟨Nat.le_of_ble_eq_true rfl, Nat.le_of_ble_eq_true rfl⟩) hW hS hB (hC.1.lay.k2).1 (pAt_7 (hC.1.lay.k2).2) rfl rfl hl.1 rfl (Nat.le_of_ble_eq_true rfl) dX2_settle_97 ⟨by show _ ≤ L.length + 1; omega, by show _ ≤ 8 * L.length + 8; omega⟩ (fun S11 H locs hp9 hW hS => ?_)
      obtain ⟨f9, k9⟩ := hp9
      have hF9 := hF.tr f9
      have hC9 : CR S11 y dE (mAskS (mW1 (mGB g gt kk n).1 gt kk) gt kk (mMore (mW1 (mGB g gt kk n).1 gt kk) gt kk n)).1 c9 := by rw [mAskS, mSend_if, show (mOpenUp (mW1 (mGB g gt kk n).1 gt kk) gt kk).1 20 gt = g.1 20 gt from congrFun (hI.1 20 (by decide) (by decide) (by decide)) gt]; exact k9
      clear hC hF
      have hC := hC9
      have hF := hF9
      exact k_vret C hr hlk hW hS hB ⟨c9, hF, by rw [mWorkE_a (q := mGB g gt kk n) 0 ⟨Int32.not_le.mp c_43, q_51⟩]; exact hC, by rw [show hs (mWorkE (mGB g gt kk n) 0 gt kk n).1 gt kk n = hs (mGB g gt kk n).1 gt kk n from hs_same (mWorkE_27 _ _ _ _ _ (by decide)) (mWorkE_27 _ _ _ _ _ (by decide))]; exact hD9⟩ (by omega) (by omega) dX2_settle_100
