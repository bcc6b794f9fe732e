def mForget (g : MS) (gt : Nat) : Nat → MS
  | 0 => g
  | j + 1 => iI (mForget g gt j) 13 (8 * gt + j) (-1)
theorem mForget_f (g : MS) (gt j : Nat) : (mForget g gt j).2.2 = g.2.2 := by
  induction j with
  | zero => rfl
  | succ j ih => exact ih
theorem mForget_w {g : MS} (h : WOk g) (gt j : Nat) : WOk (mForget g gt j) := by
  induction j with
  | zero => exact h
  | succ j ih => exact ih
def mHear (g : MS) (gt : Nat) (birth : Int32) : MS := if g.1 12 gt < birth then mForget (iI g 12 gt birth) gt 8 else g
/-- the ask is answered anew -/
abbrev mNew (g : MS) (gt kk : Nat) (birth count : Int32) : Prop := ¬ birth < g.1 12 gt ∧ (mHear g gt birth).1 13 (8 * gt + kk) < count
def mAsk2 (g : MS) (n gt kk : Nat) (tok count : Int32) : MS × Int32 :=
  if count < g.1 13 (8 * gt + kk) then (g, 0)
  else (mSG (if g.1 13 (8 * gt + kk) < count then mAnswer g n gt kk tok count else g) gt kk, 1)
def mAsks (g : MS) (n gt kk : Nat) (tok birth count : Int32) : MS × Int32 := if birth < g.1 12 gt then (g, 0) else mAsk2 (mHear g gt birth) n gt kk tok count
theorem mAsk2_a {g : MS} {n gt kk : Nat} {tok count : Int32} (h : count < g.1 13 (8 * gt + kk)) : mAsk2 g n gt kk tok count = (g, 0) := if_pos h
theorem mAsk2_b {g : MS} {n gt kk : Nat} {tok count : Int32} (h : ¬ count < g.1 13 (8 * gt + kk)) (h2 : ¬ g.1 13 (8 * gt + kk) < count) : mAsk2 g n gt kk tok count = (mSG g gt kk, 1) := by rw [mAsk2, if_neg h, if_neg h2]
theorem mAsk2_c {g : MS} {n gt kk : Nat} {tok count : Int32} (h : ¬ count < g.1 13 (8 * gt + kk)) (h2 : g.1 13 (8 * gt + kk) < count) : mAsk2 g n gt kk tok count = (mSG (mAnswer g n gt kk tok count) gt kk, 1) := by rw [mAsk2, if_neg h, if_pos h2]
theorem mAsks_n {g : MS} {n gt kk : Nat} {tok birth count : Int32} {r : MS × Int32} (h : ¬ birth < g.1 12 gt) (e : mAsk2 (mHear g gt birth) n gt kk tok count = r) : mAsks g n gt kk tok birth count = r := by rw [mAsks, if_neg h]; exact e
set_option maxRecDepth 100000 in
set_option maxHeartbeats 1000000 in
theorem c_X11_asks {l : Launch} {D : va_G} {cy : Nat → ClassId} {B : Nat} {s0 : State} {S : PS} {a0 : Nat} {t : Nat → Nat} {g : MS} {n gt kk : Nat} {tok birth count : Int32} (hR : MR S a0 t g) (hn : g.2.2 1107 = nI n) (hnlt0 : mNew g gt kk birth count → n < 300) (hg : gt < 6) (hkk : kk < 8) (hw9 : WOk g) (hm : MsgOk g) : KI l yX11_asks wsX11_asks ({ frames := 2, cells := 0, slots := 0, locals := 52 }) D cy B s0 [.ref a0, .int (nI gt), .int (nI kk), .int tok, .int birth, .int count] S (fun r S2 => MO S S2 a0 t ∧ MR S2 a0 t (mAsks g n gt kk tok birth count).1 ∧ r = (mAsks g n gt kk tok birth count).2) 0 0 := by
  refine k_body (own := RX11) (cc := cX11_asks) (maxL := 7) (ret := (some .boolean)) rfl (by decide) rfl (Nat.le_of_ble_eq_true rfl) ?_
  intro p e s m below meth c C hml hr hlk hnm hB hW ls hl
  obtain ⟨hx, hb, hts, hown, hK, hEn⟩ := id C
  have hS : va_S (Aw B) s.heap s.heap [] := va_S.rf
  have hinX11 : ∀ w ∈ wsX110, w ∈ wsX11_asks := by decide +kernel
  have l42 : Cond.fieldLink RX11 42 "LeaseGatesModel" "heard" "[I" ∈ wsX11_asks := by decide +kernel
  have l45 : Cond.fieldLink RX11 45 "LeaseGatesModel" "answered" "[I" ∈ wsX11_asks := by decide +kernel
  have hl : lv_has ls 7 [(0, .ref a0), (1, .int (nI gt)), (2, .int (nI kk)), (3, .int tok), (4, .int birth), (5, .int count)] := hl
  have hO : MO S S a0 t := MO.rf
  refine lv_iload hx hb dX11_asks_0 (lv_at hl 4 rfl) ?_
  refine lv_aload_n hx hb dX11_asks_2 rfl (lv_at hl 0 rfl) ?_
  refine g_1112 C hinX11 hW hR.1.1 (mA_12 hR.1) l42 dX11_asks_3 ?_
  refine lv_iload_n hx hb dX11_asks_6 rfl (lv_at hl 1 rfl) ?_
  refine a_Iload C hW (j := gt) (mK_12 hR.1) (mN_12 hR.1) rfl (by omega) (by omega) dX11_asks_7 ?_
  refine top_i (show aI S (t 12) gt = g.1 12 gt from hR.i 12 gt) ?_
  refine lv_icmp_ge (tgt := 13) hx hb dX11_asks_8 (by decide) (fun c_8 => ?_) (fun c_8 => ?_)
  · refine lv_iload hx hb dX11_asks_13 (lv_at hl 4 rfl) ?_
    refine lv_aload_n hx hb dX11_asks_15 rfl (lv_at hl 0 rfl) ?_
    refine g_1112 C hinX11 hW hR.1.1 (mA_12 hR.1) l42 dX11_asks_16 ?_
    refine lv_iload_n hx hb dX11_asks_19 rfl (lv_at hl 1 rfl) ?_
    refine a_Iload C hW (j := gt) (mK_12 hR.1) (mN_12 hR.1) rfl (by omega) (by omega) dX11_asks_20 ?_
    refine top_i (show aI S (t 12) gt = g.1 12 gt from hR.i 12 gt) ?_
    refine lv_icmp_le (tgt := 64) hx hb dX11_asks_21 (by decide) (fun c_21 => ?_) (fun c_21 => ?_)
    · have hR : MR S a0 t (mHear g gt birth) := (by rw [mHear, if_neg (Int32.not_lt.mpr c_21)]; exact hR)
      have hf9 : (mHear g gt birth).2.2 = g.2.2 := by unfold mHear; split; exact mForget_f _ _ _; rfl
      have hw9 : WOk (mHear g gt birth) := by unfold mHear; split; exact mForget_w (g := iI g 12 gt birth) hw9 gt 8; exact hw9
      replace hn := (congrFun hf9 1107).trans hn
      replace hm := MsgOk_of (congrFun hf9 1131) hm
      refine lv_bipush (v := 8) hx hb dX11_asks_64 (by decide) ?_
      refine lv_iload_n hx hb dX11_asks_66 rfl (lv_at hl 1 rfl) ?_
      refine lv_imul hx hb dX11_asks_67 ?_
      refine top_i (show 8 * (nI gt) = nI (8 * gt) from pk_mul 8 gt) ?_
      refine lv_iload_n hx hb dX11_asks_68 rfl (lv_at hl 2 rfl) ?_
      refine lv_iadd hx hb dX11_asks_69 ?_
      refine top_i (show (nI (8 * gt)) + (nI kk) = nI ((8 * gt) + kk) from nI_add (8 * gt) kk) ?_
      refine lv_istore (lv' := [(6, .int (nI ((8 * gt) + kk))), (0, .ref a0), (1, .int (nI gt)), (2, .int (nI kk)), (3, .int tok), (4, .int birth), (5, .int count)]) hx hb dX11_asks_70 hl (by decide) rfl (fun ls hl => ?_)
      refine lv_iload hx hb dX11_asks_72 (lv_at hl 6 rfl) ?_
      refine lv_aload_n hx hb dX11_asks_74 rfl (lv_at hl 1 rfl) ?_
      refine g_1113 C hinX11 hW hR.1.1 (mA_13 hR.1) l45 dX11_asks_75 ?_
      refine lv_iload hx hb dX11_asks_78 (lv_at hl 0 rfl) ?_
      refine a_Iload C hW (j := ((8 * gt) + kk)) (mK_13 hR.1) (mN_13 hR.1) rfl (by omega) (by omega) dX11_asks_80 ?_
      refine top_i (show aI S (t 13) ((8 * gt) + kk) = (mHear g gt birth).1 13 ((8 * gt) + kk) from hR.i 13 ((8 * gt) + kk)) ?_
      refine lv_icmp_ge (tgt := 86) hx hb dX11_asks_81 (by decide) (fun c_81 => ?_) (fun c_81 => ?_)
      · refine lv_iload hx hb dX11_asks_86 (lv_at hl 6 rfl) ?_
        refine lv_aload_n hx hb dX11_asks_88 rfl (lv_at hl 1 rfl) ?_
        refine g_1113 C hinX11 hW hR.1.1 (mA_13 hR.1) l45 dX11_asks_89 ?_
        refine lv_iload hx hb dX11_asks_92 (lv_at hl 0 rfl) ?_
        refine a_Iload C hW (j := ((8 * gt) + kk)) (mK_13 hR.1) (mN_13 hR.1) rfl (by omega) (by omega) dX11_asks_94 ?_
        refine top_i (show aI S (t 13) ((8 * gt) + kk) = (mHear g gt birth).1 13 ((8 * gt) + kk) from hR.i 13 ((8 * gt) + kk)) ?_
        refine lv_icmp_le (tgt := 107) hx hb dX11_asks_95 (by decide) (fun c_95 => ?_) (fun c_95 => ?_)
        · 
          refine lv_aload_n hx hb dX11_asks_107 rfl (lv_at hl 1 rfl) ?_
          refine lv_iload_n hx hb dX11_asks_108 rfl (lv_at hl 2 rfl) ?_
          refine lv_iload_n hx hb dX11_asks_109 rfl (lv_at hl 3 rfl) ?_
          refine k_callVv (As := [.int (nI gt), .int (nI kk)]) (rest := []) C hml (c_X11_sendGrant (gt := gt) (kk := kk) hR (by omega) (by omega) hm) (cwV 2 hts gX11_asks_X11_sendGrant rfl rfl rfl (by decide +kernel) ⟨by decide, by decide⟩) hW hS hB (hR.1.1).1 (pAt_11 (hR.1.1).2) rfl rfl hl.1 rfl (Nat.le_of_ble_eq_true rfl) dX11_asks_110 ⟨Nat.le_of_ble_eq_true rfl, Nat.le_of_ble_eq_true rfl⟩ (fun S1 H locs hp9 hW hS => ?_)
          obtain ⟨hO9, hR⟩ := hp9
          replace hO := hO.tr hO9
          clear hO9
          refine lv_iconst (v := 1) hx hb dX11_asks_113 (by decide) ?_
          exact k_zret C hr hlk hW hS hB ⟨hO, by have e5 := mAsks_n (g := g) (n := n) (gt := gt) (kk := kk) (tok := tok) (birth := birth) (count := count) (Int32.not_lt.mpr c_8) (mAsk2_b (g := mHear g gt birth) (n := n) (gt := gt) (kk := kk) (tok := tok) (count := count) (Int32.not_lt.mpr c_81) (Int32.not_lt.mpr c_95)); rw [e5]; dsimp only; exact hR, by have e5 := mAsks_n (g := g) (n := n) (gt := gt) (kk := kk) (tok := tok) (birth := birth) (count := count) (Int32.not_lt.mpr c_8) (mAsk2_b (g := mHear g gt birth) (n := n) (gt := gt) (kk := kk) (tok := tok) (count := count) (Int32.not_lt.mpr c_81) (Int32.not_lt.mpr c_95)); rw [e5]⟩ (by decide) (Nat.le_refl _) (Nat.le_refl _) dX11_asks_114
        · have hnlt := hnlt0 ⟨Int32.not_lt.mpr c_8, Int32.not_le.mp c_95⟩
          refine lv_aload_n hx hb dX11_asks_98 rfl (lv_at hl 1 rfl) ?_
          refine lv_iload_n hx hb dX11_asks_99 rfl (lv_at hl 2 rfl) ?_
          refine lv_iload_n hx hb dX11_asks_100 rfl (lv_at hl 3 rfl) ?_
          refine lv_iload_n hx hb dX11_asks_101 rfl (lv_at hl 4 rfl) ?_
          refine lv_iload hx hb dX11_asks_102 (lv_at hl 6 rfl) ?_
          refine k_callVv (As := [.int (nI gt), .int (nI kk), .int tok, .int count]) (rest := []) C hml (c_X11_answer (gt := gt) (kk := kk) hR hn hnlt (by omega) (by omega) hw9) (cwV 4 hts gX11_asks_X11_answer rfl rfl rfl (by decide +kernel) ⟨by decide, by decide⟩) hW hS hB (hR.1.1).1 (pAt_11 (hR.1.1).2) rfl rfl hl.1 rfl (Nat.le_of_ble_eq_true rfl) dX11_asks_104 ⟨Nat.le_of_ble_eq_true rfl, Nat.le_of_ble_eq_true rfl⟩ (fun S2 H locs hp9 hW hS => ?_)
          obtain ⟨hO9, hR⟩ := hp9
          replace hO := hO.tr hO9
          clear hO9
          replace hm := MsgOk_of (mAnswer_m (mHear g gt birth) n gt kk tok count) hm
          refine lv_aload_n hx hb dX11_asks_107 rfl (lv_at hl 1 rfl) ?_
          refine lv_iload_n hx hb dX11_asks_108 rfl (lv_at hl 2 rfl) ?_
          refine lv_iload_n hx hb dX11_asks_109 rfl (lv_at hl 3 rfl) ?_
          refine k_callVv (As := [.int (nI gt), .int (nI kk)]) (rest := []) C hml (c_X11_sendGrant (gt := gt) (kk := kk) hR (by omega) (by omega) hm) (cwV 2 hts gX11_asks_X11_sendGrant rfl rfl rfl (by decide +kernel) ⟨by decide, by decide⟩) hW hS hB (hR.1.1).1 (pAt_11 (hR.1.1).2) rfl rfl hl.1 rfl (Nat.le_of_ble_eq_true rfl) dX11_asks_110 ⟨Nat.le_of_ble_eq_true rfl, Nat.le_of_ble_eq_true rfl⟩ (fun S3 H locs hp9 hW hS => ?_)
          obtain ⟨hO9, hR⟩ := hp9
          replace hO := hO.tr hO9
          clear hO9
          refine lv_iconst (v := 1) hx hb dX11_asks_113 (by decide) ?_
          exact k_zret C hr hlk hW hS hB ⟨hO, by have e5 := mAsks_n (g := g) (n := n) (gt := gt) (kk := kk) (tok := tok) (birth := birth) (count := count) (Int32.not_lt.mpr c_8) (mAsk2_c (g := mHear g gt birth) (n := n) (gt := gt) (kk := kk) (tok := tok) (count := count) (Int32.not_lt.mpr c_81) (Int32.not_le.mp c_95)); rw [e5]; dsimp only; exact hR, by have e5 := mAsks_n (g := g) (n := n) (gt := gt) (kk := kk) (tok := tok) (birth := birth) (count := count) (Int32.not_lt.mpr c_8) (mAsk2_c (g := mHear g gt birth) (n := n) (gt := gt) (kk := kk) (tok := tok) (count := count) (Int32.not_lt.mpr c_81) (Int32.not_le.mp c_95)); rw [e5]⟩ (by decide) (Nat.le_refl _) (Nat.le_refl _) dX11_asks_114
      · refine lv_iconst (v := 0) hx hb dX11_asks_84 (by decide) ?_
        exact k_zret C hr hlk hW hS hB ⟨hO, by have e5 := mAsks_n (g := g) (n := n) (gt := gt) (kk := kk) (tok := tok) (birth := birth) (count := count) (Int32.not_lt.mpr c_8) (mAsk2_a (g := mHear g gt birth) (n := n) (gt := gt) (kk := kk) (tok := tok) (count := count) (Int32.not_le.mp c_81)); rw [e5]; exact hR, by have e5 := mAsks_n (g := g) (n := n) (gt := gt) (kk := kk) (tok := tok) (birth := birth) (count := count) (Int32.not_lt.mpr c_8) (mAsk2_a (g := mHear g gt birth) (n := n) (gt := gt) (kk := kk) (tok := tok) (count := count) (Int32.not_le.mp c_81)); rw [e5]⟩ (by decide) (Nat.le_refl _) (Nat.le_refl _) dX11_asks_85
    · refine lv_aload_n hx hb dX11_asks_24 rfl (lv_at hl 0 rfl) ?_
      refine g_1112 C hinX11 hW hR.1.1 (mA_12 hR.1) l42 dX11_asks_25 ?_
      refine lv_iload_n hx hb dX11_asks_28 rfl (lv_at hl 1 rfl) ?_
      refine lv_iload hx hb dX11_asks_29 (lv_at hl 4 rfl) ?_
      refine a_Istore C hW hS (j := gt) (mK_12 hR.1) (mN_12 hR.1) rfl (by omega) (by omega) dX11_asks_31 (fun S4 H locs e1 hW hS => ?_)
      have hR : MR S4 a0 t (iI g 12 gt birth) := by rw [e1]; exact hR.wI
      replace hO : MO S S4 a0 t := by rw [e1]; exact hO.wI
      clear e1
      refine lv_bipush (v := 8) hx hb dX11_asks_32 (by decide) ?_
      refine lv_iload_n hx hb dX11_asks_34 rfl (lv_at hl 1 rfl) ?_
      refine lv_imul hx hb dX11_asks_35 ?_
      refine top_i (show 8 * (nI gt) = nI (8 * gt) from pk_mul 8 gt) ?_
      refine lv_istore (lv' := [(6, .int (nI (8 * gt))), (0, .ref a0), (1, .int (nI gt)), (2, .int (nI kk)), (3, .int tok), (4, .int birth), (5, .int count)]) hx hb dX11_asks_36 hl (by decide) rfl (fun ls hl => ?_)
      have lp : ∀ (d j : Nat) (Sk : PS) (H : Heap) (locs : List Loc) (ls : Array Slot), j ≤ 8 → 8 - j < d → MR Sk a0 t (mForget (iI g 12 gt birth) gt j) → MO S Sk a0 t → PW D cy B Sk H → va_S (Aw B) s.heap H locs → lv_has ls 7 [(0, .ref a0), (1, .int (nI gt)), (2, .int (nI kk)), (3, .int tok), (4, .int birth), (5, .int count), (6, .int (nI (8 * gt + j)))] → W p l e ({ frames := 2, cells := 0, slots := 0, locals := 52 }) s m [.ref a0, .int (nI gt), .int (nI kk), .int tok, .int birth, .int count].toArray below meth c H locs 0 0 (MQ below (va_Qi (fun r S2 => MO S S2 a0 t ∧ MR S2 a0 t (mAsks g n gt kk tok birth count).1 ∧ r = (mAsks g n gt kk tok birth count).2) (PreW D cy B s0) (Aw B)) [.ref a0, .int (nI gt), .int (nI kk), .int tok, .int birth, .int count].toArray s 0 0 (Aw B)) (F0 m 38 ls []) := by
        intro d
        induction d with
        | zero => intro j  Sk H locs ls _ hd; exact absurd hd (Nat.not_lt_zero _)
        | succ d ih =>
          intro j  Sk H locs ls hk hd hR hO hW hS hl
          refine lv_iload hx hb dX11_asks_38 (lv_at hl 6 rfl) ?_
          refine lv_bipush (v := 8) hx hb dX11_asks_40 (by decide) ?_
          refine lv_iload_n hx hb dX11_asks_42 rfl (lv_at hl 1 rfl) ?_
          refine lv_imul hx hb dX11_asks_43 ?_
          refine top_i (show 8 * (nI gt) = nI (8 * gt) from pk_mul 8 gt) ?_
          refine lv_bipush (v := 8) hx hb dX11_asks_44 (by decide) ?_
          refine lv_iadd hx hb dX11_asks_46 ?_
          refine top_i (show (nI (8 * gt)) + 8 = nI ((8 * gt) + 8) from nI_add (8 * gt) 8) ?_
          refine lv_icmp_ge (tgt := 64) hx hb dX11_asks_47 (by decide) (fun c_47 => ?_) (fun c_47 => ?_)
          · have q_47 : ((8 * gt) + 8) ≤ (8 * gt + j) := (nI_leI (a := ((8 * gt) + 8)) (b := (8 * gt + j)) (by omega) (by omega)).mp c_47
            have hR : MR Sk a0 t (mHear g gt birth) := (by rw [show j = 8 by omega] at hR; rw [mHear, if_pos (Int32.not_le.mp c_21)]; exact hR)
            have hf9 : (mHear g gt birth).2.2 = g.2.2 := by unfold mHear; split; exact mForget_f _ _ _; rfl
            have hw9 : WOk (mHear g gt birth) := by unfold mHear; split; exact mForget_w (g := iI g 12 gt birth) hw9 gt 8; exact hw9
            replace hn := (congrFun hf9 1107).trans hn
            replace hm := MsgOk_of (congrFun hf9 1131) hm
            refine lv_bipush (v := 8) hx hb dX11_asks_64 (by decide) ?_
            refine lv_iload_n hx hb dX11_asks_66 rfl (lv_at hl 1 rfl) ?_
            refine lv_imul hx hb dX11_asks_67 ?_
            refine top_i (show 8 * (nI gt) = nI (8 * gt) from pk_mul 8 gt) ?_
            refine lv_iload_n hx hb dX11_asks_68 rfl (lv_at hl 2 rfl) ?_
            refine lv_iadd hx hb dX11_asks_69 ?_
            refine top_i (show (nI (8 * gt)) + (nI kk) = nI ((8 * gt) + kk) from nI_add (8 * gt) kk) ?_
            refine lv_istore (lv' := [(6, .int (nI ((8 * gt) + kk))), (0, .ref a0), (1, .int (nI gt)), (2, .int (nI kk)), (3, .int tok), (4, .int birth), (5, .int count)]) hx hb dX11_asks_70 hl (by decide) rfl (fun ls hl => ?_)
            refine lv_iload hx hb dX11_asks_72 (lv_at hl 6 rfl) ?_
            refine lv_aload_n hx hb dX11_asks_74 rfl (lv_at hl 1 rfl) ?_
            refine g_1113 C hinX11 hW hR.1.1 (mA_13 hR.1) l45 dX11_asks_75 ?_
            refine lv_iload hx hb dX11_asks_78 (lv_at hl 0 rfl) ?_
            refine a_Iload C hW (j := ((8 * gt) + kk)) (mK_13 hR.1) (mN_13 hR.1) rfl (by omega) (by omega) dX11_asks_80 ?_
            refine top_i (show aI Sk (t 13) ((8 * gt) + kk) = (mHear g gt birth).1 13 ((8 * gt) + kk) from hR.i 13 ((8 * gt) + kk)) ?_
            refine lv_icmp_ge (tgt := 86) hx hb dX11_asks_81 (by decide) (fun c_81 => ?_) (fun c_81 => ?_)
            · refine lv_iload hx hb dX11_asks_86 (lv_at hl 6 rfl) ?_
              refine lv_aload_n hx hb dX11_asks_88 rfl (lv_at hl 1 rfl) ?_
              refine g_1113 C hinX11 hW hR.1.1 (mA_13 hR.1) l45 dX11_asks_89 ?_
              refine lv_iload hx hb dX11_asks_92 (lv_at hl 0 rfl) ?_
              refine a_Iload C hW (j := ((8 * gt) + kk)) (mK_13 hR.1) (mN_13 hR.1) rfl (by omega) (by omega) dX11_asks_94 ?_
              refine top_i (show aI Sk (t 13) ((8 * gt) + kk) = (mHear g gt birth).1 13 ((8 * gt) + kk) from hR.i 13 ((8 * gt) + kk)) ?_
              refine lv_icmp_le (tgt := 107) hx hb dX11_asks_95 (by decide) (fun c_95 => ?_) (fun c_95 => ?_)
              · 
                refine lv_aload_n hx hb dX11_asks_107 rfl (lv_at hl 1 rfl) ?_
                refine lv_iload_n hx hb dX11_asks_108 rfl (lv_at hl 2 rfl) ?_
                refine lv_iload_n hx hb dX11_asks_109 rfl (lv_at hl 3 rfl) ?_
                refine k_callVv (As := [.int (nI gt), .int (nI kk)]) (rest := []) C hml (c_X11_sendGrant (gt := gt) (kk := kk) hR (by omega) (by omega) hm) (cwV 2 hts gX11_asks_X11_sendGrant rfl rfl rfl (by decide +kernel) ⟨by decide, by decide⟩) hW hS hB (hR.1.1).1 (pAt_11 (hR.1.1).2) rfl rfl hl.1 rfl (Nat.le_of_ble_eq_true rfl) dX11_asks_110 ⟨Nat.le_of_ble_eq_true rfl, Nat.le_of_ble_eq_true rfl⟩ (fun S5 H locs hp9 hW hS => ?_)
                obtain ⟨hO9, hR⟩ := hp9
                replace hO := hO.tr hO9
                clear hO9
                refine lv_iconst (v := 1) hx hb dX11_asks_113 (by decide) ?_
                exact k_zret C hr hlk hW hS hB ⟨hO, by have e5 := mAsks_n (g := g) (n := n) (gt := gt) (kk := kk) (tok := tok) (birth := birth) (count := count) (Int32.not_lt.mpr c_8) (mAsk2_b (g := mHear g gt birth) (n := n) (gt := gt) (kk := kk) (tok := tok) (count := count) (Int32.not_lt.mpr c_81) (Int32.not_lt.mpr c_95)); rw [e5]; dsimp only; exact hR, by have e5 := mAsks_n (g := g) (n := n) (gt := gt) (kk := kk) (tok := tok) (birth := birth) (count := count) (Int32.not_lt.mpr c_8) (mAsk2_b (g := mHear g gt birth) (n := n) (gt := gt) (kk := kk) (tok := tok) (count := count) (Int32.not_lt.mpr c_81) (Int32.not_lt.mpr c_95)); rw [e5]⟩ (by decide) (Nat.le_refl _) (Nat.le_refl _) dX11_asks_114
              · have hnlt := hnlt0 ⟨Int32.not_lt.mpr c_8, Int32.not_le.mp c_95⟩
                refine lv_aload_n hx hb dX11_asks_98 rfl (lv_at hl 1 rfl) ?_
                refine lv_iload_n hx hb dX11_asks_99 rfl (lv_at hl 2 rfl) ?_
                refine lv_iload_n hx hb dX11_asks_100 rfl (lv_at hl 3 rfl) ?_
                refine lv_iload_n hx hb dX11_asks_101 rfl (lv_at hl 4 rfl) ?_
                refine lv_iload hx hb dX11_asks_102 (lv_at hl 6 rfl) ?_
                refine k_callVv (As := [.int (nI gt), .int (nI kk), .int tok, .int count]) (rest := []) C hml (c_X11_answer (gt := gt) (kk := kk) hR hn hnlt (by omega) (by omega) hw9) (cwV 4 hts gX11_asks_X11_answer rfl rfl rfl (by decide +kernel) ⟨by decide, by decide⟩) hW hS hB (hR.1.1).1 (pAt_11 (hR.1.1).2) rfl rfl hl.1 rfl (Nat.le_of_ble_eq_true rfl) dX11_asks_104 ⟨Nat.le_of_ble_eq_true rfl, Nat.le_of_ble_eq_true rfl⟩ (fun S6 H locs hp9 hW hS => ?_)
                obtain ⟨hO9, hR⟩ := hp9
                replace hO := hO.tr hO9
                clear hO9
                replace hm := MsgOk_of (mAnswer_m (mHear g gt birth) n gt kk tok count) hm
                refine lv_aload_n hx hb dX11_asks_107 rfl (lv_at hl 1 rfl) ?_
                refine lv_iload_n hx hb dX11_asks_108 rfl (lv_at hl 2 rfl) ?_
                refine lv_iload_n hx hb dX11_asks_109 rfl (lv_at hl 3 rfl) ?_
                refine k_callVv (As := [.int (nI gt), .int (nI kk)]) (rest := []) C hml (c_X11_sendGrant (gt := gt) (kk := kk) hR (by omega) (by omega) hm) (cwV 2 hts gX11_asks_X11_sendGrant rfl rfl rfl (by decide +kernel) ⟨by decide, by decide⟩) hW hS hB (hR.1.1).1 (pAt_11 (hR.1.1).2) rfl rfl hl.1 rfl (Nat.le_of_ble_eq_true rfl) dX11_asks_110 ⟨Nat.le_of_ble_eq_true rfl, Nat.le_of_ble_eq_true rfl⟩ (fun S7 H locs hp9 hW hS => ?_)
                obtain ⟨hO9, hR⟩ := hp9
                replace hO := hO.tr hO9
                clear hO9
                refine lv_iconst (v := 1) hx hb dX11_asks_113 (by decide) ?_
                exact k_zret C hr hlk hW hS hB ⟨hO, by have e5 := mAsks_n (g := g) (n := n) (gt := gt) (kk := kk) (tok := tok) (birth := birth) (count := count) (Int32.not_lt.mpr c_8) (mAsk2_c (g := mHear g gt birth) (n := n) (gt := gt) (kk := kk) (tok := tok) (count := count) (Int32.not_lt.mpr c_81) (Int32.not_le.mp c_95)); rw [e5]; dsimp only; exact hR, by have e5 := mAsks_n (g := g) (n := n) (gt := gt) (kk := kk) (tok := tok) (birth := birth) (count := count) (Int32.not_lt.mpr c_8) (mAsk2_c (g := mHear g gt birth) (n := n) (gt := gt) (kk := kk) (tok := tok) (count := count) (Int32.not_lt.mpr c_81) (Int32.not_le.mp c_95)); rw [e5]⟩ (by decide) (Nat.le_refl _) (Nat.le_refl _) dX11_asks_114
            · refine lv_iconst (v := 0) hx hb dX11_asks_84 (by decide) ?_
              exact k_zret C hr hlk hW hS hB ⟨hO, by have e5 := mAsks_n (g := g) (n := n) (gt := gt) (kk := kk) (tok := tok) (birth := birth) (count := count) (Int32.not_lt.mpr c_8) (mAsk2_a (g := mHear g gt birth) (n := n) (gt := gt) (kk := kk) (tok := tok) (count := count) (Int32.not_le.mp c_81)); rw [e5]; exact hR, by have e5 := mAsks_n (g := g) (n := n) (gt := gt) (kk := kk) (tok := tok) (birth := birth) (count := count) (Int32.not_lt.mpr c_8) (mAsk2_a (g := mHear g gt birth) (n := n) (gt := gt) (kk := kk) (tok := tok) (count := count) (Int32.not_le.mp c_81)); rw [e5]⟩ (by decide) (Nat.le_refl _) (Nat.le_refl _) dX11_asks_85
          · have q_47 : ¬ (((8 * gt) + 8) ≤ (8 * gt + j)) := fun z => c_47 ((nI_leI (a := ((8 * gt) + 8)) (b := (8 * gt + j)) (by omega) (by omega)).mpr z)
            refine lv_aload_n hx hb dX11_asks_50 rfl (lv_at hl 0 rfl) ?_
            refine g_1113 C hinX11 hW hR.1.1 (mA_13 hR.1) l45 dX11_asks_51 ?_
            refine lv_iload hx hb dX11_asks_54 (lv_at hl 6 rfl) ?_
            refine lv_iconst (v := (-1)) hx hb dX11_asks_56 (by decide) ?_
            refine a_Istore C hW hS (j := (8 * gt + j)) (mK_13 hR.1) (mN_13 hR.1) rfl (by omega) (by omega) dX11_asks_57 (fun S8 H locs e1 hW hS => ?_)
            have hR : MR S8 a0 t (iI (mForget (iI g 12 gt birth) gt j) 13 (8 * gt + j) (-1)) := by rw [e1]; exact hR.wI
            replace hO : MO S S8 a0 t := by rw [e1]; exact hO.wI
            clear e1
            refine lv_iinc (v := nI ((8 * gt + j) + 1)) (lv' := [(6, .int (nI ((8 * gt + j) + 1))), (0, .ref a0), (1, .int (nI gt)), (2, .int (nI kk)), (3, .int tok), (4, .int birth), (5, .int count)]) hx hb dX11_asks_58 hl (k := 6) rfl (nI_add (8 * gt + j) 1) (by decide) rfl (fun ls hl => ?_)
            refine lv_goto (tgt := 38) hx hb dX11_asks_61 (by decide) ?_
            exact ih (j + 1)  _ _ _ ls (by omega) (by omega) hR hO hW hS (lv_sub hl [1, 2, 3, 4, 5, 6, 0] rfl)
      exact lp (8 - 0 + 1) 0  _ _ _ ls (by omega) (by omega) hR hO hW hS (lv_sub hl [1, 2, 3, 4, 5, 6, 0] rfl)
  · refine lv_iconst (v := 0) hx hb dX11_asks_11 (by decide) ?_
    exact k_zret C hr hlk hW hS hB ⟨hO, by rw [mAsks, if_pos (Int32.not_le.mp c_8)]; exact hR, by rw [mAsks, if_pos (Int32.not_le.mp c_8)]⟩ (by decide) (Nat.le_refl _) (Nat.le_refl _) dX11_asks_12
def mRet (g : MS) (n gt : Nat) (tok birth : Int32) (h kk : Nat) : MS × Int32 :=
  if birth < g.1 12 gt ∨ g.1 9 h = 0 then (g, 0) else (mFill (iI g 9 h 0) n kk (g.2.1 5 kk + 1000 * tok.toInt64), 1)
set_option maxRecDepth 100000 in
set_option maxHeartbeats 1000000 in
theorem c_X11_returns {l : Launch} {D : va_G} {cy : Nat → ClassId} {B : Nat} {s0 : State} {S : PS} {a0 : Nat} {t : Nat → Nat} {g : MS} {n gt h kk : Nat} {tok birth : Int32} (hR : MR S a0 t g) (hn : g.2.2 1107 = nI n) (hn3 : n ≤ 300) (hg : gt < 6) (hh : h < 300) (hkk : kk < 8) (hlk9 : g.1 8 h = nI kk) : KI l yX11_returns wsX11_returns ({ frames := 2, cells := 0, slots := 0, locals := 50 }) D cy B s0 [.ref a0, .int (nI gt), .int tok, .int birth, .int (nI h)] S (fun r S2 => MO S S2 a0 t ∧ MR S2 a0 t (mRet g n gt tok birth h kk).1 ∧ r = (mRet g n gt tok birth h kk).2) 0 0 := by
  refine k_body (own := RX11) (cc := cX11_returns) (maxL := 6) (ret := (some .boolean)) rfl (by decide) rfl (Nat.le_of_ble_eq_true rfl) ?_
  intro p e s m below meth c C hml hr hlk hnm hB hW ls hl
  obtain ⟨hx, hb, hts, hown, hK, hEn⟩ := id C
  have hS : va_S (Aw B) s.heap s.heap [] := va_S.rf
  have hinX11 : ∀ w ∈ wsX110, w ∈ wsX11_returns := by decide +kernel
  have l23 : Cond.fieldLink RX11 23 "LeaseGatesModel" "levels" "[J" ∈ wsX11_returns := by decide +kernel
  have l29 : Cond.fieldLink RX11 29 "LeaseGatesModel" "loanKey" "[I" ∈ wsX11_returns := by decide +kernel
  have l32 : Cond.fieldLink RX11 32 "LeaseGatesModel" "loanTokens" "[I" ∈ wsX11_returns := by decide +kernel
  have l42 : Cond.fieldLink RX11 42 "LeaseGatesModel" "heard" "[I" ∈ wsX11_returns := by decide +kernel
  have l109 : Cond.constantLong RX11 109 (1000) ∈ wsX11_returns := by decide +kernel
  have hl : lv_has ls 6 [(0, .ref a0), (1, .int (nI gt)), (2, .int tok), (3, .int birth), (4, .int (nI h))] := hl
  have hO : MO S S a0 t := MO.rf
  refine lv_iload_n hx hb dX11_returns_0 rfl (lv_at hl 3 rfl) ?_
  refine lv_aload_n hx hb dX11_returns_1 rfl (lv_at hl 0 rfl) ?_
  refine g_1112 C hinX11 hW hR.1.1 (mA_12 hR.1) l42 dX11_returns_2 ?_
  refine lv_iload_n hx hb dX11_returns_5 rfl (lv_at hl 1 rfl) ?_
  refine a_Iload C hW (j := gt) (mK_12 hR.1) (mN_12 hR.1) rfl (by omega) (by omega) dX11_returns_6 ?_
  refine top_i (show aI S (t 12) gt = g.1 12 gt from hR.i 12 gt) ?_
  refine lv_icmp_lt (tgt := 20) hx hb dX11_returns_7 (by decide) (fun c_7 => ?_) (fun c_7 => ?_)
  · refine lv_iconst (v := 0) hx hb dX11_returns_20 (by decide) ?_
    exact k_zret C hr hlk hW hS hB ⟨hO, by rw [mRet, if_pos (Or.inl c_7)]; dsimp only; exact hR, by rw [mRet, if_pos (Or.inl c_7)]⟩ (by decide) (Nat.le_refl _) (Nat.le_refl _) dX11_returns_21
  · refine lv_aload_n hx hb dX11_returns_10 rfl (lv_at hl 0 rfl) ?_
    refine g_1109 C hinX11 hW hR.1.1 (mA_9 hR.1) l32 dX11_returns_11 ?_
    refine lv_iload hx hb dX11_returns_14 (lv_at hl 4 rfl) ?_
    refine a_Iload C hW (j := h) (mK_9 hR.1) (mN_9 hR.1) rfl (by omega) (by omega) dX11_returns_16 ?_
    refine top_i (show aI S (t 9) h = g.1 9 h from hR.i 9 h) ?_
    refine lv_if_ne (tgt := 22) hx hb dX11_returns_17 (by decide) (fun c_17 => ?_) (fun c_17 => ?_)
    · refine lv_aload_n hx hb dX11_returns_22 rfl (lv_at hl 0 rfl) ?_
      refine g_1108 C hinX11 hW hR.1.1 (mA_8 hR.1) l29 dX11_returns_23 ?_
      refine lv_iload hx hb dX11_returns_26 (lv_at hl 4 rfl) ?_
      refine a_Iload C hW (j := h) (mK_8 hR.1) (mN_8 hR.1) rfl (by omega) (by omega) dX11_returns_28 ?_
      refine top_i (show aI S (t 8) h = g.1 8 h from hR.i 8 h) ?_
      refine top_i (show g.1 8 h = nI kk from hlk9) ?_
      refine lv_istore (lv' := [(5, .int (nI kk)), (0, .ref a0), (1, .int (nI gt)), (2, .int tok), (3, .int birth), (4, .int (nI h))]) hx hb dX11_returns_29 hl (by decide) rfl (fun ls hl => ?_)
      refine lv_aload_n hx hb dX11_returns_31 rfl (lv_at hl 1 rfl) ?_
      refine g_1109 C hinX11 hW hR.1.1 (mA_9 hR.1) l32 dX11_returns_32 ?_
      refine lv_iload hx hb dX11_returns_35 (lv_at hl 5 rfl) ?_
      refine lv_iconst (v := 0) hx hb dX11_returns_37 (by decide) ?_
      refine a_Istore C hW hS (j := h) (mK_9 hR.1) (mN_9 hR.1) rfl (by omega) (by omega) dX11_returns_38 (fun S1 H locs e1 hW hS => ?_)
      have hR : MR S1 a0 t (iI g 9 h 0) := by rw [e1]; exact hR.wI
      replace hO : MO S S1 a0 t := by rw [e1]; exact hO.wI
      clear e1
      refine lv_aload_n hx hb dX11_returns_39 rfl (lv_at hl 1 rfl) ?_
      refine lv_iload hx hb dX11_returns_40 (lv_at hl 0 rfl) ?_
      refine lv_aload_n hx hb dX11_returns_42 rfl (lv_at hl 1 rfl) ?_
      refine g_1105 C hinX11 hW hR.1.1 (mA_5 hR.1) l23 dX11_returns_43 ?_
      refine lv_iload hx hb dX11_returns_46 (lv_at hl 0 rfl) ?_
      refine a_Jload C hW (j := kk) (mK_5 hR.1) (mN_5 hR.1) rfl (by omega) (by omega) dX11_returns_48 ?_
      refine top_l (show aJ S1 (t 5) kk = (iI g 9 h 0).2.1 5 kk from hR.l 5 kk) ?_
      refine lv_ldc2 hx hb hown (hts _ l109) dX11_returns_49 ?_
      refine lv_iload_n hx hb dX11_returns_52 rfl (lv_at hl 3 rfl) ?_
      refine lv_i2l (v := tok.toInt64) hx hb dX11_returns_53 rfl ?_
      refine lv_lmul hx hb dX11_returns_54 ?_
      refine lv_ladd hx hb dX11_returns_55 ?_
      refine k_callVv (As := [.int (nI kk), .long (((iI g 9 h 0).2.1 5 kk) + (1000 * tok.toInt64))]) (rest := []) C hml (c_X11_fill (k := kk) hR hn hn3 (by omega)) (cwV 2 hts gX11_returns_X11_fill rfl rfl rfl (by decide +kernel) ⟨by decide, by decide⟩) hW hS hB (hR.1.1).1 (pAt_11 (hR.1.1).2) rfl rfl hl.1 rfl (Nat.le_of_ble_eq_true rfl) dX11_returns_56 ⟨Nat.le_of_ble_eq_true rfl, Nat.le_of_ble_eq_true rfl⟩ (fun S2 H locs hp9 hW hS => ?_)
      obtain ⟨hO9, hR⟩ := hp9
      replace hO := hO.tr hO9
      clear hO9
      refine lv_iconst (v := 1) hx hb dX11_returns_59 (by decide) ?_
      exact k_zret C hr hlk hW hS hB ⟨hO, by rw [mRet, if_neg (fun z => z.elim (fun y => c_7 y) (fun y => c_17 y))]; dsimp only; exact hR, by rw [mRet, if_neg (fun z => z.elim (fun y => c_7 y) (fun y => c_17 y))]⟩ (by decide) (Nat.le_refl _) (Nat.le_refl _) dX11_returns_60
    · refine lv_iconst (v := 0) hx hb dX11_returns_20 (by decide) ?_
      exact k_zret C hr hlk hW hS hB ⟨hO, by rw [mRet, if_pos (Or.inr c_17)]; dsimp only; exact hR, by rw [mRet, if_pos (Or.inr c_17)]⟩ (by decide) (Nat.le_refl _) (Nat.le_refl _) dX11_returns_21
def mArrH (g : MS) (q gt kk h : Nat) : MS := iI (iI (iI (iI (iI g 24 (8 * gt + kk) 0) 27 h (nI (gt + 1))) 28 h (g.1 32 (8 * q + 3))) 29 h (g.1 25 (8 * gt + kk))) 30 h (g.1 32 (8 * q + 7))
def mArr (g : MS) (q gt kk h : Nat) : MS × Int32 :=
  if g.1 32 (8 * q + 4) = g.1 20 gt ∧ ¬ g.1 24 (8 * gt + kk) = 0 ∧ g.1 32 (8 * q + 5) = g.1 23 (8 * gt + kk) then
    (if 0 < g.1 32 (8 * q + 3) then mArrH g q gt kk h else iI g 24 (8 * gt + kk) 0, 1)
  else (g, 0)
theorem mArr_a {g : MS} {q gt kk h : Nat} (z1 : g.1 32 (8 * q + 4) = g.1 20 gt) (z2 : ¬ g.1 24 (8 * gt + kk) = 0) (z3 : g.1 32 (8 * q + 5) = g.1 23 (8 * gt + kk)) (z4 : 0 < g.1 32 (8 * q + 3)) : mArr g q gt kk h = (mArrH g q gt kk h, 1) := by rw [mArr, if_pos ⟨z1, z2, z3⟩, if_pos z4]
theorem mArr_b {g : MS} {q gt kk h : Nat} (z1 : g.1 32 (8 * q + 4) = g.1 20 gt) (z2 : ¬ g.1 24 (8 * gt + kk) = 0) (z3 : g.1 32 (8 * q + 5) = g.1 23 (8 * gt + kk)) (z4 : ¬ 0 < g.1 32 (8 * q + 3)) : mArr g q gt kk h = (iI g 24 (8 * gt + kk) 0, 1) := by rw [mArr, if_pos ⟨z1, z2, z3⟩, if_neg z4]
set_option maxRecDepth 100000 in
set_option maxHeartbeats 1000000 in
theorem c_X11_arrives {l : Launch} {D : va_G} {cy : Nat → ClassId} {B : Nat} {s0 : State} {S : PS} {a0 : Nat} {t : Nat → Nat} {g : MS} {q gt kk h : Nat} (hR : MR S a0 t g) (hq : q < 300) (hgt : gt < 6) (hkk : kk < 8) (hg1 : g.1 32 (8 * q + 1) = nI gt) (hk2 : g.1 32 (8 * q + 2) = nI kk) (hnum : 0 < g.1 32 (8 * q + 3) → h < 300 ∧ g.1 32 (8 * q + 6) = nI h) : KI l yX11_arrives wsX11_arrives ({ frames := 0, cells := 0, slots := 0, locals := 0 }) D cy B s0 [.ref a0, .int (nI (8 * q))] S (fun r S2 => MO S S2 a0 t ∧ MR S2 a0 t (mArr g q gt kk h).1 ∧ r = (mArr g q gt kk h).2) 0 0 := by
  refine k_body (own := RX11) (cc := cX11_arrives) (maxL := 5) (ret := (some .boolean)) rfl (by decide) rfl (Nat.le_of_ble_eq_true rfl) ?_
  intro p e s m below meth c C hml hr hlk hnm hB hW ls hl
  obtain ⟨hx, hb, hts, hown, hK, hEn⟩ := id C
  have hS : va_S (Aw B) s.heap s.heap [] := va_S.rf
  have hinX11 : ∀ w ∈ wsX110, w ∈ wsX11_arrives := by decide +kernel
  have l67 : Cond.fieldLink RX11 67 "LeaseGatesModel" "births" "[I" ∈ wsX11_arrives := by decide +kernel
  have l76 : Cond.fieldLink RX11 76 "LeaseGatesModel" "counts" "[I" ∈ wsX11_arrives := by decide +kernel
  have l79 : Cond.fieldLink RX11 79 "LeaseGatesModel" "isOpen" "[Z" ∈ wsX11_arrives := by decide +kernel
  have l82 : Cond.fieldLink RX11 82 "LeaseGatesModel" "since" "[I" ∈ wsX11_arrives := by decide +kernel
  have l88 : Cond.fieldLink RX11 88 "LeaseGatesModel" "holder" "[I" ∈ wsX11_arrives := by decide +kernel
  have l91 : Cond.fieldLink RX11 91 "LeaseGatesModel" "held" "[I" ∈ wsX11_arrives := by decide +kernel
  have l94 : Cond.fieldLink RX11 94 "LeaseGatesModel" "heldSince" "[I" ∈ wsX11_arrives := by decide +kernel
  have l97 : Cond.fieldLink RX11 97 "LeaseGatesModel" "heldLength" "[I" ∈ wsX11_arrives := by decide +kernel
  have l100 : Cond.fieldLink RX11 100 "LeaseGatesModel" "told" "[I" ∈ wsX11_arrives := by decide +kernel
  have hl : lv_has ls 5 [(0, .ref a0), (1, .int (nI (8 * q)))] := hl
  have hO : MO S S a0 t := MO.rf
  refine lv_aload_n hx hb dX11_arrives_0 rfl (lv_at hl 0 rfl) ?_
  refine g_1132 C hinX11 hW hR.1.1 (mA_32 hR.1) l100 dX11_arrives_1 ?_
  refine lv_iload_n hx hb dX11_arrives_4 rfl (lv_at hl 1 rfl) ?_
  refine lv_iconst (v := 1) hx hb dX11_arrives_5 (by decide) ?_
  refine lv_iadd hx hb dX11_arrives_6 ?_
  refine top_i (show (nI (8 * q)) + 1 = nI ((8 * q) + 1) from nI_add (8 * q) 1) ?_
  refine a_Iload C hW (j := ((8 * q) + 1)) (mK_32 hR.1) (mN_32 hR.1) rfl (by omega) (by omega) dX11_arrives_7 ?_
  refine top_i (show aI S (t 32) ((8 * q) + 1) = g.1 32 ((8 * q) + 1) from hR.i 32 ((8 * q) + 1)) ?_
  refine top_i (show g.1 32 ((8 * q) + 1) = nI gt from hg1) ?_
  refine lv_istore_n (lv' := [(2, .int (nI gt)), (0, .ref a0), (1, .int (nI (8 * q)))]) hx hb dX11_arrives_8 rfl hl (by decide) rfl (fun ls hl => ?_)
  refine lv_bipush (v := 8) hx hb dX11_arrives_9 (by decide) ?_
  refine lv_iload_n hx hb dX11_arrives_11 rfl (lv_at hl 0 rfl) ?_
  refine lv_imul hx hb dX11_arrives_12 ?_
  refine top_i (show 8 * (nI gt) = nI (8 * gt) from pk_mul 8 gt) ?_
  refine lv_aload_n hx hb dX11_arrives_13 rfl (lv_at hl 1 rfl) ?_
  refine g_1132 C hinX11 hW hR.1.1 (mA_32 hR.1) l100 dX11_arrives_14 ?_
  refine lv_iload_n hx hb dX11_arrives_17 rfl (lv_at hl 2 rfl) ?_
  refine lv_iconst (v := 2) hx hb dX11_arrives_18 (by decide) ?_
  refine lv_iadd hx hb dX11_arrives_19 ?_
  refine top_i (show (nI (8 * q)) + 2 = nI ((8 * q) + 2) from nI_add (8 * q) 2) ?_
  refine a_Iload C hW (j := ((8 * q) + 2)) (mK_32 hR.1) (mN_32 hR.1) rfl (by omega) (by omega) dX11_arrives_20 ?_
  refine top_i (show aI S (t 32) ((8 * q) + 2) = g.1 32 ((8 * q) + 2) from hR.i 32 ((8 * q) + 2)) ?_
  refine top_i (show g.1 32 ((8 * q) + 2) = nI kk from hk2) ?_
  refine lv_iadd hx hb dX11_arrives_21 ?_
  refine top_i (show (nI (8 * gt)) + (nI kk) = nI ((8 * gt) + kk) from nI_add (8 * gt) kk) ?_
  refine lv_istore_n (lv' := [(3, .int (nI ((8 * gt) + kk))), (2, .int (nI gt)), (0, .ref a0), (1, .int (nI (8 * q)))]) hx hb dX11_arrives_22 rfl hl (by decide) rfl (fun ls hl => ?_)
  refine lv_aload_n hx hb dX11_arrives_23 rfl (lv_at hl 2 rfl) ?_
  refine g_1132 C hinX11 hW hR.1.1 (mA_32 hR.1) l100 dX11_arrives_24 ?_
  refine lv_iload_n hx hb dX11_arrives_27 rfl (lv_at hl 3 rfl) ?_
  refine lv_iconst (v := 4) hx hb dX11_arrives_28 (by decide) ?_
  refine lv_iadd hx hb dX11_arrives_29 ?_
  refine top_i (show (nI (8 * q)) + 4 = nI ((8 * q) + 4) from nI_add (8 * q) 4) ?_
  refine a_Iload C hW (j := ((8 * q) + 4)) (mK_32 hR.1) (mN_32 hR.1) rfl (by omega) (by omega) dX11_arrives_30 ?_
  refine top_i (show aI S (t 32) ((8 * q) + 4) = g.1 32 ((8 * q) + 4) from hR.i 32 ((8 * q) + 4)) ?_
  refine lv_aload_n hx hb dX11_arrives_31 rfl (lv_at hl 2 rfl) ?_
  refine g_1120 C hinX11 hW hR.1.1 (mA_20 hR.1) l67 dX11_arrives_32 ?_
  refine lv_iload_n hx hb dX11_arrives_35 rfl (lv_at hl 1 rfl) ?_
  refine a_Iload C hW (j := gt) (mK_20 hR.1) (mN_20 hR.1) rfl (by omega) (by omega) dX11_arrives_36 ?_
  refine top_i (show aI S (t 20) gt = g.1 20 gt from hR.i 20 gt) ?_
  refine lv_icmp_ne (tgt := 66) hx hb dX11_arrives_37 (by decide) (fun c_37 => ?_) (fun c_37 => ?_)
  · refine lv_iconst (v := 0) hx hb dX11_arrives_66 (by decide) ?_
    exact k_zret C hr hlk hW hS hB ⟨hO, by rw [mArr, if_neg (fun z => c_37 z.1)]; exact hR, by rw [mArr, if_neg (fun z => c_37 z.1)]⟩ (by decide) (Nat.le_refl _) (Nat.le_refl _) dX11_arrives_67
  · refine lv_aload_n hx hb dX11_arrives_40 rfl (lv_at hl 2 rfl) ?_
    refine g_1124 C hinX11 hW hR.1.1 (mA_24 hR.1) l79 dX11_arrives_41 ?_
    refine lv_iload_n hx hb dX11_arrives_44 rfl (lv_at hl 0 rfl) ?_
    refine a_Zload C hW (j := ((8 * gt) + kk)) (mK_24 hR.1) (mN_24 hR.1) rfl (by omega) (by omega) dX11_arrives_45 ?_
    refine top_i (show aI S (t 24) ((8 * gt) + kk) = g.1 24 ((8 * gt) + kk) from hR.i 24 ((8 * gt) + kk)) ?_
    refine lv_if_eq (tgt := 66) hx hb dX11_arrives_46 (by decide) (fun c_46 => ?_) (fun c_46 => ?_)
    · refine lv_iconst (v := 0) hx hb dX11_arrives_66 (by decide) ?_
      exact k_zret C hr hlk hW hS hB ⟨hO, by rw [mArr, if_neg (fun z => z.2.1 c_46)]; exact hR, by rw [mArr, if_neg (fun z => z.2.1 c_46)]⟩ (by decide) (Nat.le_refl _) (Nat.le_refl _) dX11_arrives_67
    · refine lv_aload_n hx hb dX11_arrives_49 rfl (lv_at hl 2 rfl) ?_
      refine g_1132 C hinX11 hW hR.1.1 (mA_32 hR.1) l100 dX11_arrives_50 ?_
      refine lv_iload_n hx hb dX11_arrives_53 rfl (lv_at hl 3 rfl) ?_
      refine lv_iconst (v := 5) hx hb dX11_arrives_54 (by decide) ?_
      refine lv_iadd hx hb dX11_arrives_55 ?_
      refine top_i (show (nI (8 * q)) + 5 = nI ((8 * q) + 5) from nI_add (8 * q) 5) ?_
      refine a_Iload C hW (j := ((8 * q) + 5)) (mK_32 hR.1) (mN_32 hR.1) rfl (by omega) (by omega) dX11_arrives_56 ?_
      refine top_i (show aI S (t 32) ((8 * q) + 5) = g.1 32 ((8 * q) + 5) from hR.i 32 ((8 * q) + 5)) ?_
      refine lv_aload_n hx hb dX11_arrives_57 rfl (lv_at hl 2 rfl) ?_
      refine g_1123 C hinX11 hW hR.1.1 (mA_23 hR.1) l76 dX11_arrives_58 ?_
      refine lv_iload_n hx hb dX11_arrives_61 rfl (lv_at hl 0 rfl) ?_
      refine a_Iload C hW (j := ((8 * gt) + kk)) (mK_23 hR.1) (mN_23 hR.1) rfl (by omega) (by omega) dX11_arrives_62 ?_
      refine top_i (show aI S (t 23) ((8 * gt) + kk) = g.1 23 ((8 * gt) + kk) from hR.i 23 ((8 * gt) + kk)) ?_
      refine lv_icmp_eq (tgt := 68) hx hb dX11_arrives_63 (by decide) (fun c_63 => ?_) (fun c_63 => ?_)
      · refine lv_aload_n hx hb dX11_arrives_68 rfl (lv_at hl 2 rfl) ?_
        refine g_1124 C hinX11 hW hR.1.1 (mA_24 hR.1) l79 dX11_arrives_69 ?_
        refine lv_iload_n hx hb dX11_arrives_72 rfl (lv_at hl 0 rfl) ?_
        refine lv_iconst (v := 0) hx hb dX11_arrives_73 (by decide) ?_
        refine a_Zstore C hW hS (j := ((8 * gt) + kk)) (mK_24 hR.1) (mN_24 hR.1) rfl (by omega) (by omega) (by decide) dX11_arrives_74 (fun S1 H locs e1 hW hS => ?_)
        have hR : MR S1 a0 t (iI g 24 ((8 * gt) + kk) 0) := by rw [e1]; exact hR.wI
        replace hO : MO S S1 a0 t := by rw [e1]; exact hO.wI
        clear e1
        refine lv_aload_n hx hb dX11_arrives_75 rfl (lv_at hl 2 rfl) ?_
        refine g_1132 C hinX11 hW hR.1.1 (mA_32 hR.1) l100 dX11_arrives_76 ?_
        refine lv_iload_n hx hb dX11_arrives_79 rfl (lv_at hl 3 rfl) ?_
        refine lv_bipush (v := 6) hx hb dX11_arrives_80 (by decide) ?_
        refine lv_iadd hx hb dX11_arrives_82 ?_
        refine top_i (show (nI (8 * q)) + 6 = nI ((8 * q) + 6) from nI_add (8 * q) 6) ?_
        refine a_Iload C hW (j := ((8 * q) + 6)) (mK_32 hR.1) (mN_32 hR.1) rfl (by omega) (by omega) dX11_arrives_83 ?_
        refine top_i (show aI S1 (t 32) ((8 * q) + 6) = (iI g 24 ((8 * gt) + kk) 0).1 32 ((8 * q) + 6) from hR.i 32 ((8 * q) + 6)) ?_
        refine lv_istore (lv' := [(4, .int ((iI g 24 ((8 * gt) + kk) 0).1 32 ((8 * q) + 6))), (3, .int (nI ((8 * gt) + kk))), (2, .int (nI gt)), (0, .ref a0), (1, .int (nI (8 * q)))]) hx hb dX11_arrives_84 hl (by decide) rfl (fun ls hl => ?_)
        refine lv_aload_n hx hb dX11_arrives_86 rfl (lv_at hl 3 rfl) ?_
        refine g_1132 C hinX11 hW hR.1.1 (mA_32 hR.1) l100 dX11_arrives_87 ?_
        refine lv_iload_n hx hb dX11_arrives_90 rfl (lv_at hl 4 rfl) ?_
        refine lv_iconst (v := 3) hx hb dX11_arrives_91 (by decide) ?_
        refine lv_iadd hx hb dX11_arrives_92 ?_
        refine top_i (show (nI (8 * q)) + 3 = nI ((8 * q) + 3) from nI_add (8 * q) 3) ?_
        refine a_Iload C hW (j := ((8 * q) + 3)) (mK_32 hR.1) (mN_32 hR.1) rfl (by omega) (by omega) dX11_arrives_93 ?_
        refine top_i (show aI S1 (t 32) ((8 * q) + 3) = (iI g 24 ((8 * gt) + kk) 0).1 32 ((8 * q) + 3) from hR.i 32 ((8 * q) + 3)) ?_
        refine lv_if_le (tgt := 151) hx hb dX11_arrives_94 (by decide) (fun c_94 => ?_) (fun c_94 => ?_)
        · refine lv_iconst (v := 1) hx hb dX11_arrives_151 (by decide) ?_
          exact k_zret C hr hlk hW hS hB ⟨hO, by rw [mArr_b c_37 c_46 c_63 (Int32.not_lt.mpr c_94)]; dsimp only; exact hR, by rw [mArr_b c_37 c_46 c_63 (Int32.not_lt.mpr c_94)]⟩ (by decide) (Nat.le_refl _) (Nat.le_refl _) dX11_arrives_152
        · obtain ⟨hh9, e6⟩ := hnum (Int32.not_le.mp c_94)
          replace hl : lv_has ls 5 [(4, .int (nI h)), (3, .int (nI ((8 * gt) + kk))), (2, .int (nI gt)), (0, .ref a0), (1, .int (nI (8 * q)))] := by
            have e5 : (iI g 24 ((8 * gt) + kk) 0).1 32 ((8 * q) + 6) = nI h := e6
            rw [e5] at hl
            exact hl
          refine lv_aload_n hx hb dX11_arrives_97 rfl (lv_at hl 3 rfl) ?_
          refine g_1127 C hinX11 hW hR.1.1 (mA_27 hR.1) l88 dX11_arrives_98 ?_
          refine lv_iload hx hb dX11_arrives_101 (lv_at hl 0 rfl) ?_
          refine lv_iload_n hx hb dX11_arrives_103 rfl (lv_at hl 2 rfl) ?_
          refine lv_iconst (v := 1) hx hb dX11_arrives_104 (by decide) ?_
          refine lv_iadd hx hb dX11_arrives_105 ?_
          refine top_i (show (nI gt) + 1 = nI (gt + 1) from nI_add gt 1) ?_
          refine a_Istore C hW hS (j := h) (mK_27 hR.1) (mN_27 hR.1) rfl (by omega) (by omega) dX11_arrives_106 (fun S2 H locs e1 hW hS => ?_)
          have hR : MR S2 a0 t (iI (iI g 24 ((8 * gt) + kk) 0) 27 h (nI (gt + 1))) := by rw [e1]; exact hR.wI
          replace hO : MO S S2 a0 t := by rw [e1]; exact hO.wI
          clear e1
          refine lv_aload_n hx hb dX11_arrives_107 rfl (lv_at hl 3 rfl) ?_
          refine g_1128 C hinX11 hW hR.1.1 (mA_28 hR.1) l91 dX11_arrives_108 ?_
          refine lv_iload hx hb dX11_arrives_111 (lv_at hl 0 rfl) ?_
          refine lv_aload_n hx hb dX11_arrives_113 rfl (lv_at hl 3 rfl) ?_
          refine g_1132 C hinX11 hW hR.1.1 (mA_32 hR.1) l100 dX11_arrives_114 ?_
          refine lv_iload_n hx hb dX11_arrives_117 rfl (lv_at hl 4 rfl) ?_
          refine lv_iconst (v := 3) hx hb dX11_arrives_118 (by decide) ?_
          refine lv_iadd hx hb dX11_arrives_119 ?_
          refine top_i (show (nI (8 * q)) + 3 = nI ((8 * q) + 3) from nI_add (8 * q) 3) ?_
          refine a_Iload C hW (j := ((8 * q) + 3)) (mK_32 hR.1) (mN_32 hR.1) rfl (by omega) (by omega) dX11_arrives_120 ?_
          refine top_i (show aI S2 (t 32) ((8 * q) + 3) = (iI (iI g 24 ((8 * gt) + kk) 0) 27 h (nI (gt + 1))).1 32 ((8 * q) + 3) from hR.i 32 ((8 * q) + 3)) ?_
          refine a_Istore C hW hS (j := h) (mK_28 hR.1) (mN_28 hR.1) rfl (by omega) (by omega) dX11_arrives_121 (fun S3 H locs e1 hW hS => ?_)
          have hR : MR S3 a0 t (iI (iI (iI g 24 ((8 * gt) + kk) 0) 27 h (nI (gt + 1))) 28 h ((iI (iI g 24 ((8 * gt) + kk) 0) 27 h (nI (gt + 1))).1 32 ((8 * q) + 3))) := by rw [e1]; exact hR.wI
          replace hO : MO S S3 a0 t := by rw [e1]; exact hO.wI
          clear e1
          refine lv_aload_n hx hb dX11_arrives_122 rfl (lv_at hl 3 rfl) ?_
          refine g_1129 C hinX11 hW hR.1.1 (mA_29 hR.1) l94 dX11_arrives_123 ?_
          refine lv_iload hx hb dX11_arrives_126 (lv_at hl 0 rfl) ?_
          refine lv_aload_n hx hb dX11_arrives_128 rfl (lv_at hl 3 rfl) ?_
          refine g_1125 C hinX11 hW hR.1.1 (mA_25 hR.1) l82 dX11_arrives_129 ?_
          refine lv_iload_n hx hb dX11_arrives_132 rfl (lv_at hl 1 rfl) ?_
          refine a_Iload C hW (j := ((8 * gt) + kk)) (mK_25 hR.1) (mN_25 hR.1) rfl (by omega) (by omega) dX11_arrives_133 ?_
          refine top_i (show aI S3 (t 25) ((8 * gt) + kk) = (iI (iI (iI g 24 ((8 * gt) + kk) 0) 27 h (nI (gt + 1))) 28 h ((iI (iI g 24 ((8 * gt) + kk) 0) 27 h (nI (gt + 1))).1 32 ((8 * q) + 3))).1 25 ((8 * gt) + kk) from hR.i 25 ((8 * gt) + kk)) ?_
          refine a_Istore C hW hS (j := h) (mK_29 hR.1) (mN_29 hR.1) rfl (by omega) (by omega) dX11_arrives_134 (fun S4 H locs e1 hW hS => ?_)
          have hR : MR S4 a0 t (iI (iI (iI (iI g 24 ((8 * gt) + kk) 0) 27 h (nI (gt + 1))) 28 h ((iI (iI g 24 ((8 * gt) + kk) 0) 27 h (nI (gt + 1))).1 32 ((8 * q) + 3))) 29 h ((iI (iI (iI g 24 ((8 * gt) + kk) 0) 27 h (nI (gt + 1))) 28 h ((iI (iI g 24 ((8 * gt) + kk) 0) 27 h (nI (gt + 1))).1 32 ((8 * q) + 3))).1 25 ((8 * gt) + kk))) := by rw [e1]; exact hR.wI
          replace hO : MO S S4 a0 t := by rw [e1]; exact hO.wI
          clear e1
          refine lv_aload_n hx hb dX11_arrives_135 rfl (lv_at hl 3 rfl) ?_
          refine g_1130 C hinX11 hW hR.1.1 (mA_30 hR.1) l97 dX11_arrives_136 ?_
          refine lv_iload hx hb dX11_arrives_139 (lv_at hl 0 rfl) ?_
          refine lv_aload_n hx hb dX11_arrives_141 rfl (lv_at hl 3 rfl) ?_
          refine g_1132 C hinX11 hW hR.1.1 (mA_32 hR.1) l100 dX11_arrives_142 ?_
          refine lv_iload_n hx hb dX11_arrives_145 rfl (lv_at hl 4 rfl) ?_
          refine lv_bipush (v := 7) hx hb dX11_arrives_146 (by decide) ?_
          refine lv_iadd hx hb dX11_arrives_148 ?_
          refine top_i (show (nI (8 * q)) + 7 = nI ((8 * q) + 7) from nI_add (8 * q) 7) ?_
          refine a_Iload C hW (j := ((8 * q) + 7)) (mK_32 hR.1) (mN_32 hR.1) rfl (by omega) (by omega) dX11_arrives_149 ?_
          refine top_i (show aI S4 (t 32) ((8 * q) + 7) = (iI (iI (iI (iI g 24 ((8 * gt) + kk) 0) 27 h (nI (gt + 1))) 28 h ((iI (iI g 24 ((8 * gt) + kk) 0) 27 h (nI (gt + 1))).1 32 ((8 * q) + 3))) 29 h ((iI (iI (iI g 24 ((8 * gt) + kk) 0) 27 h (nI (gt + 1))) 28 h ((iI (iI g 24 ((8 * gt) + kk) 0) 27 h (nI (gt + 1))).1 32 ((8 * q) + 3))).1 25 ((8 * gt) + kk))).1 32 ((8 * q) + 7) from hR.i 32 ((8 * q) + 7)) ?_
          refine a_Istore C hW hS (j := h) (mK_30 hR.1) (mN_30 hR.1) rfl (by omega) (by omega) dX11_arrives_150 (fun S5 H locs e1 hW hS => ?_)
          have hR : MR S5 a0 t (iI (iI (iI (iI (iI g 24 ((8 * gt) + kk) 0) 27 h (nI (gt + 1))) 28 h ((iI (iI g 24 ((8 * gt) + kk) 0) 27 h (nI (gt + 1))).1 32 ((8 * q) + 3))) 29 h ((iI (iI (iI g 24 ((8 * gt) + kk) 0) 27 h (nI (gt + 1))) 28 h ((iI (iI g 24 ((8 * gt) + kk) 0) 27 h (nI (gt + 1))).1 32 ((8 * q) + 3))).1 25 ((8 * gt) + kk))) 30 h ((iI (iI (iI (iI g 24 ((8 * gt) + kk) 0) 27 h (nI (gt + 1))) 28 h ((iI (iI g 24 ((8 * gt) + kk) 0) 27 h (nI (gt + 1))).1 32 ((8 * q) + 3))) 29 h ((iI (iI (iI g 24 ((8 * gt) + kk) 0) 27 h (nI (gt + 1))) 28 h ((iI (iI g 24 ((8 * gt) + kk) 0) 27 h (nI (gt + 1))).1 32 ((8 * q) + 3))).1 25 ((8 * gt) + kk))).1 32 ((8 * q) + 7))) := by rw [e1]; exact hR.wI
          replace hO : MO S S5 a0 t := by rw [e1]; exact hO.wI
          clear e1
          refine lv_iconst (v := 1) hx hb dX11_arrives_151 (by decide) ?_
          exact k_zret C hr hlk hW hS hB ⟨hO, by rw [mArr_a c_37 c_46 c_63 (Int32.not_le.mp c_94)]; dsimp only; exact hR, by rw [mArr_a c_37 c_46 c_63 (Int32.not_le.mp c_94)]⟩ (by decide) (Nat.le_refl _) (Nat.le_refl _) dX11_arrives_152
      · refine lv_iconst (v := 0) hx hb dX11_arrives_66 (by decide) ?_
        exact k_zret C hr hlk hW hS hB ⟨hO, by rw [mArr, if_neg (fun z => c_63 z.2.2)]; exact hR, by rw [mArr, if_neg (fun z => c_63 z.2.2)]⟩ (by decide) (Nat.le_refl _) (Nat.le_refl _) dX11_arrives_67
theorem mAsks_z (g : MS) (n gt kk : Nat) (tok birth count : Int32) : (mAsks g n gt kk tok birth count).2 = 0 ∨ (mAsks g n gt kk tok birth count).2 = 1 := by
  unfold mAsks mAsk2
  split
  · exact Or.inl rfl
  · split
    · exact Or.inl rfl
    · exact Or.inr rfl
theorem mArr_z (g : MS) (q gt kk h : Nat) : (mArr g q gt kk h).2 = 0 ∨ (mArr g q gt kk h).2 = 1 := by
  unfold mArr
  split
  · exact Or.inr rfl
  · exact Or.inl rfl
theorem mRet_z (g : MS) (n gt : Nat) (tok birth : Int32) (h kk : Nat) : (mRet g n gt tok birth h kk).2 = 0 ∨ (mRet g n gt tok birth h kk).2 = 1 := by
  unfold mRet
  split
  · exact Or.inl rfl
  · exact Or.inr rfl
/-- the message q is one that can be carried -/
def MsgV (g : MS) (n q gt kk h : Nat) : Prop := gt < 6 ∧ kk < 8 ∧ g.1 32 (8 * q + 1) = nI gt ∧ g.1 32 (8 * q + 2) = nI kk ∧ (g.1 32 (8 * q) = 1 → 0 < g.1 32 (8 * q + 3) → h < 300 ∧ g.1 32 (8 * q + 6) = nI h) ∧ (¬ g.1 32 (8 * q) = 0 → ¬ g.1 32 (8 * q) = 1 → h < 300 ∧ g.1 32 (8 * q + 6) = nI h ∧ g.1 8 h = nI kk)
def mCarryQ (g : MS) (n q gt kk h : Nat) : MS × Int32 :=
  if g.1 32 (8 * q) = 0 then mAsks g n gt kk (g.1 32 (8 * q + 3)) (g.1 32 (8 * q + 4)) (g.1 32 (8 * q + 5))
  else if g.1 32 (8 * q) = 1 then mArr g q gt kk h
  else mRet g n gt (g.1 32 (8 * q + 3)) (g.1 32 (8 * q + 4)) h kk
def mCarry (g : MS) (n : Nat) (p0 : Int32) (gt kk h : Nat) : MS × Int32 := if mIsMsg g p0 then mCarryQ (iF g 1100 0) n p0.toNatClampNeg gt kk h else (iF g 1100 1, 0)
theorem mIsMsg_q {g : MS} (hm : MsgOk g) {p : Int32} (h : mIsMsg g p) : ∃ q, q < mqN g ∧ p = nI q := by
  obtain ⟨k, h1, h2⟩ := nI_of (x := p) (fun z => by have y := h.1; rw [Int32.lt_iff_toInt_lt] at z; rw [Int32.le_iff_toInt_le] at y; omega)
  subst h2
  have z := h.2.1
  rw [hm.1] at z
  exact ⟨k, (nI_ltI h1 (by have := hm.2; omega)).mp z, rfl⟩
set_option maxRecDepth 100000 in
set_option maxHeartbeats 1000000 in
theorem c_X11_carry {l : Launch} {D : va_G} {cy : Nat → ClassId} {B : Nat} {s0 : State} {S : PS} {a0 : Nat} {t : Nat → Nat} {g : MS} {n gt kk h : Nat} {p0 : Int32} (hR : MR S a0 t g) (hn : g.2.2 1107 = nI n) (hn3 : n ≤ 300) (hm : MsgOk g) (hw9 : WOk g) (hV : mIsMsg g p0 → MsgV g n p0.toNatClampNeg gt kk h) (hlt0 : mIsMsg g p0 → g.1 32 (8 * p0.toNatClampNeg) = 0 → mNew (iF g 1100 0) gt kk (g.1 32 (8 * p0.toNatClampNeg + 4)) (g.1 32 (8 * p0.toNatClampNeg + 5)) → n < 300) : KI l yX11_carry wsX11_carry ({ frames := 3, cells := 0, slots := 0, locals := 78 }) D cy B s0 [.ref a0, .int p0] S (fun r S2 => MO S S2 a0 t ∧ MR S2 a0 t (mCarry g n p0 gt kk h).1 ∧ r = (mCarry g n p0 gt kk h).2) 0 0 := by
  refine k_body (own := RX11) (cc := cX11_carry) (maxL := 3) (ret := (some .boolean)) rfl (by decide) rfl (Nat.le_of_ble_eq_true rfl) ?_
  intro p e s m below meth c C hml hr hlk hnm hB hW ls hl
  obtain ⟨hx, hb, hts, hown, hK, hEn⟩ := id C
  have hS : va_S (Aw B) s.heap s.heap [] := va_S.rf
  have hinX11 : ∀ w ∈ wsX110, w ∈ wsX11_carry := by decide +kernel
  have l100 : Cond.fieldLink RX11 100 "LeaseGatesModel" "told" "[I" ∈ wsX11_carry := by decide +kernel
  have hl : lv_has ls 3 [(0, .ref a0), (1, .int p0)] := hl
  have hO : MO S S a0 t := MO.rf
  refine lv_aload_n hx hb dX11_carry_0 rfl (lv_at hl 0 rfl) ?_
  refine lv_aload_n hx hb dX11_carry_1 rfl (lv_at hl 0 rfl) ?_
  refine lv_iload_n hx hb dX11_carry_2 rfl (lv_at hl 1 rfl) ?_
  refine k_callVi (As := [.int p0]) (rest := [.ref a0]) C hml (c_X11_isMessage hR hm) (cwV 1 hts gX11_carry_X11_isMessage rfl rfl rfl (by decide +kernel) ⟨by decide, by decide⟩) hW hS hB (hR.1.1).1 (pAt_11 (hR.1.1).2) rfl rfl hl.1 rfl (Nat.le_of_ble_eq_true rfl) dX11_carry_3 ⟨Nat.le_of_ble_eq_true rfl, Nat.le_of_ble_eq_true rfl⟩ (fun r9 S1 H locs hp9 hW hS => ?_)
  obtain ⟨e8, e9⟩ := hp9
  rw [e8] at hW
  subst e9
  refine lv_if_eq (tgt := 13) hx hb dX11_carry_6 (by decide) (fun c_6 => ?_) (fun c_6 => ?_)
  · have q_6 : ¬ (mIsMsg g p0) := ite0.mp c_6
    refine lv_iconst (v := 1) hx hb dX11_carry_13 (by decide) ?_
    refine k_callVi (As := [.int 1]) (rest := []) C hml (c_X11_refused hR) (cwV 1 hts gX11_carry_X11_refused rfl rfl rfl (by decide +kernel) ⟨by decide, by decide⟩) hW hS hB (hR.1.1).1 (pAt_11 (hR.1.1).2) rfl rfl hl.1 rfl (Nat.le_of_ble_eq_true rfl) dX11_carry_14 ⟨Nat.le_of_ble_eq_true rfl, Nat.le_of_ble_eq_true rfl⟩ (fun r9 S2 H locs hp9 hW hS => ?_)
    obtain ⟨hO9, hR, e9⟩ := hp9
    replace hO := hO.tr hO9
    obtain rfl : r9 = 1 := e9.trans (by decide)
    clear hO9 e9
    refine lv_if_eq (tgt := 22) hx hb dX11_carry_17 (by decide) (fun c9 => absurd c9 (by decide)) (fun c9 => ?_)
    refine lv_iconst (v := 0) hx hb dX11_carry_20 (by decide) ?_
    exact k_zret C hr hlk hW hS hB ⟨hO, by rw [mCarry, if_neg q_6]; exact hR, by rw [mCarry, if_neg q_6]⟩ (by decide) (Nat.le_refl _) (Nat.le_refl _) dX11_carry_21
  · have q_6 : (mIsMsg g p0) := ite1.mp c_6
    refine lv_iconst (v := 0) hx hb dX11_carry_9 (by decide) ?_
    refine lv_goto (tgt := 14) hx hb dX11_carry_10 (by decide) ?_
    refine k_callVi (As := [.int 0]) (rest := []) C hml (c_X11_refused hR) (cwV 1 hts gX11_carry_X11_refused rfl rfl rfl (by decide +kernel) ⟨by decide, by decide⟩) hW hS hB (hR.1.1).1 (pAt_11 (hR.1.1).2) rfl rfl hl.1 rfl (Nat.le_of_ble_eq_true rfl) dX11_carry_14 ⟨Nat.le_of_ble_eq_true rfl, Nat.le_of_ble_eq_true rfl⟩ (fun r9 S3 H locs hp9 hW hS => ?_)
    obtain ⟨hO9, hR, e9⟩ := hp9
    replace hO := hO.tr hO9
    obtain rfl : r9 = 0 := e9.trans (by decide)
    clear hO9 e9
    refine lv_if_eq (tgt := 22) hx hb dX11_carry_17 (by decide) (fun c9 => ?_) (fun c9 => absurd c9 (by decide))
    obtain ⟨q, hq, rfl⟩ := mIsMsg_q hm q_6
    obtain ⟨hgt, hkk, hg1, hk2, hnum0, hret0⟩ := hV q_6
    rw [nI_clamp (by have := hm.2; omega)] at hg1 hk2 hnum0 hret0 hlt0
    have hm2 := hm.2
    replace hm : MsgOk (iF g 1100 0) := hm
    refine lv_bipush (v := 8) hx hb dX11_carry_22 (by decide) ?_
    refine lv_iload_n hx hb dX11_carry_24 rfl (lv_at hl 1 rfl) ?_
    refine lv_imul hx hb dX11_carry_25 ?_
    refine top_i (show 8 * (nI q) = nI (8 * q) from pk_mul 8 q) ?_
    refine lv_istore_n (lv' := [(2, .int (nI (8 * q))), (0, .ref a0), (1, .int (nI q))]) hx hb dX11_carry_26 rfl hl (by decide) rfl (fun ls hl => ?_)
    refine lv_aload_n hx hb dX11_carry_27 rfl (lv_at hl 1 rfl) ?_
    refine g_1132 C hinX11 hW hR.1.1 (mA_32 hR.1) l100 dX11_carry_28 ?_
    refine lv_iload_n hx hb dX11_carry_31 rfl (lv_at hl 0 rfl) ?_
    refine a_Iload C hW (j := (8 * q)) (mK_32 hR.1) (mN_32 hR.1) rfl (by omega) (by omega) dX11_carry_32 ?_
    refine top_i (show aI S3 (t 32) (8 * q) = (iF g 1100 0).1 32 (8 * q) from hR.i 32 (8 * q)) ?_
    refine lv_if_ne (tgt := 83) hx hb dX11_carry_33 (by decide) (fun c_33 => ?_) (fun c_33 => ?_)
    · refine lv_aload_n hx hb dX11_carry_83 rfl (lv_at hl 1 rfl) ?_
      refine g_1132 C hinX11 hW hR.1.1 (mA_32 hR.1) l100 dX11_carry_84 ?_
      refine lv_iload_n hx hb dX11_carry_87 rfl (lv_at hl 0 rfl) ?_
      refine a_Iload C hW (j := (8 * q)) (mK_32 hR.1) (mN_32 hR.1) rfl (by omega) (by omega) dX11_carry_88 ?_
      refine top_i (show aI S3 (t 32) (8 * q) = (iF g 1100 0).1 32 (8 * q) from hR.i 32 (8 * q)) ?_
      refine lv_iconst (v := 1) hx hb dX11_carry_89 (by decide) ?_
      refine lv_icmp_ne (tgt := 101) hx hb dX11_carry_90 (by decide) (fun c_90 => ?_) (fun c_90 => ?_)
      · obtain ⟨hh9, e6, hlk9⟩ := hret0 c_33 c_90
        refine lv_aload_n hx hb dX11_carry_101 rfl (lv_at hl 1 rfl) ?_
        refine lv_aload_n hx hb dX11_carry_102 rfl (lv_at hl 1 rfl) ?_
        refine g_1132 C hinX11 hW hR.1.1 (mA_32 hR.1) l100 dX11_carry_103 ?_
        refine lv_iload_n hx hb dX11_carry_106 rfl (lv_at hl 0 rfl) ?_
        refine lv_iconst (v := 1) hx hb dX11_carry_107 (by decide) ?_
        refine lv_iadd hx hb dX11_carry_108 ?_
        refine top_i (show (nI (8 * q)) + 1 = nI ((8 * q) + 1) from nI_add (8 * q) 1) ?_
        refine a_Iload C hW (j := ((8 * q) + 1)) (mK_32 hR.1) (mN_32 hR.1) rfl (by omega) (by omega) dX11_carry_109 ?_
        refine top_i (show aI S3 (t 32) ((8 * q) + 1) = (iF g 1100 0).1 32 ((8 * q) + 1) from hR.i 32 ((8 * q) + 1)) ?_
        refine top_i (show (iF g 1100 0).1 32 ((8 * q) + 1) = nI gt from hg1) ?_
        refine lv_aload_n hx hb dX11_carry_110 rfl (lv_at hl 1 rfl) ?_
        refine g_1132 C hinX11 hW hR.1.1 (mA_32 hR.1) l100 dX11_carry_111 ?_
        refine lv_iload_n hx hb dX11_carry_114 rfl (lv_at hl 0 rfl) ?_
        refine lv_iconst (v := 3) hx hb dX11_carry_115 (by decide) ?_
        refine lv_iadd hx hb dX11_carry_116 ?_
        refine top_i (show (nI (8 * q)) + 3 = nI ((8 * q) + 3) from nI_add (8 * q) 3) ?_
        refine a_Iload C hW (j := ((8 * q) + 3)) (mK_32 hR.1) (mN_32 hR.1) rfl (by omega) (by omega) dX11_carry_117 ?_
        refine top_i (show aI S3 (t 32) ((8 * q) + 3) = (iF g 1100 0).1 32 ((8 * q) + 3) from hR.i 32 ((8 * q) + 3)) ?_
        refine lv_aload_n hx hb dX11_carry_118 rfl (lv_at hl 1 rfl) ?_
        refine g_1132 C hinX11 hW hR.1.1 (mA_32 hR.1) l100 dX11_carry_119 ?_
        refine lv_iload_n hx hb dX11_carry_122 rfl (lv_at hl 0 rfl) ?_
        refine lv_iconst (v := 4) hx hb dX11_carry_123 (by decide) ?_
        refine lv_iadd hx hb dX11_carry_124 ?_
        refine top_i (show (nI (8 * q)) + 4 = nI ((8 * q) + 4) from nI_add (8 * q) 4) ?_
        refine a_Iload C hW (j := ((8 * q) + 4)) (mK_32 hR.1) (mN_32 hR.1) rfl (by omega) (by omega) dX11_carry_125 ?_
        refine top_i (show aI S3 (t 32) ((8 * q) + 4) = (iF g 1100 0).1 32 ((8 * q) + 4) from hR.i 32 ((8 * q) + 4)) ?_
        refine lv_aload_n hx hb dX11_carry_126 rfl (lv_at hl 1 rfl) ?_
        refine g_1132 C hinX11 hW hR.1.1 (mA_32 hR.1) l100 dX11_carry_127 ?_
        refine lv_iload_n hx hb dX11_carry_130 rfl (lv_at hl 0 rfl) ?_
        refine lv_bipush (v := 6) hx hb dX11_carry_131 (by decide) ?_
        refine lv_iadd hx hb dX11_carry_133 ?_
        refine top_i (show (nI (8 * q)) + 6 = nI ((8 * q) + 6) from nI_add (8 * q) 6) ?_
        refine a_Iload C hW (j := ((8 * q) + 6)) (mK_32 hR.1) (mN_32 hR.1) rfl (by omega) (by omega) dX11_carry_134 ?_
        refine top_i (show aI S3 (t 32) ((8 * q) + 6) = (iF g 1100 0).1 32 ((8 * q) + 6) from hR.i 32 ((8 * q) + 6)) ?_
        refine top_i (show (iF g 1100 0).1 32 ((8 * q) + 6) = nI h from e6) ?_
        refine k_callVi (As := [.int (nI gt), .int ((iF g 1100 0).1 32 ((8 * q) + 3)), .int ((iF g 1100 0).1 32 ((8 * q) + 4)), .int (nI h)]) (rest := []) C hml (c_X11_returns (gt := gt) (h := h) (kk := kk) hR hn hn3 (by omega) (by omega) (by omega) hlk9) (cwV 4 hts gX11_carry_X11_returns rfl rfl rfl (by decide +kernel) ⟨by decide, by decide⟩) hW hS hB (hR.1.1).1 (pAt_11 (hR.1.1).2) rfl rfl hl.1 rfl (Nat.le_of_ble_eq_true rfl) dX11_carry_135 ⟨Nat.le_of_ble_eq_true rfl, Nat.le_of_ble_eq_true rfl⟩ (fun r9 S4 H locs hp9 hW hS => ?_)
        obtain ⟨hO9, hR, e9⟩ := hp9
        replace hO := hO.tr hO9
        subst e9
        clear hO9
        exact k_zret C hr hlk hW hS hB ⟨hO, by rw [mCarry, if_pos q_6, nI_clamp (by omega), mCarryQ, if_neg c_33, if_neg c_90]; (try dsimp only); exact hR, by rw [mCarry, if_pos q_6, nI_clamp (by omega), mCarryQ, if_neg c_33, if_neg c_90]; try rfl⟩ (mRet_z _ _ _ _ _ _ _) (Nat.le_refl _) (Nat.le_refl _) dX11_carry_138
      · have hnum := hnum0 c_90
        refine lv_aload_n hx hb dX11_carry_93 rfl (lv_at hl 1 rfl) ?_
        refine lv_iload_n hx hb dX11_carry_94 rfl (lv_at hl 0 rfl) ?_
        refine k_callVi (As := [.int (nI (8 * q))]) (rest := []) C hml (c_X11_arrives (q := q) hR (by omega) hgt hkk hg1 hk2 hnum) (cwV 1 hts gX11_carry_X11_arrives rfl rfl rfl (by decide +kernel) ⟨by decide, by decide⟩) hW hS hB (hR.1.1).1 (pAt_11 (hR.1.1).2) rfl rfl hl.1 rfl (Nat.le_of_ble_eq_true rfl) dX11_carry_95 ⟨Nat.le_of_ble_eq_true rfl, Nat.le_of_ble_eq_true rfl⟩ (fun r9 S5 H locs hp9 hW hS => ?_)
        obtain ⟨hO9, hR, e9⟩ := hp9
        replace hO := hO.tr hO9
        subst e9
        clear hO9
        refine lv_goto (tgt := 138) hx hb dX11_carry_98 (by decide) ?_
        exact k_zret C hr hlk hW hS hB ⟨hO, by rw [mCarry, if_pos q_6, nI_clamp (by omega), mCarryQ, if_neg c_33, if_pos c_90]; (try dsimp only); exact hR, by rw [mCarry, if_pos q_6, nI_clamp (by omega), mCarryQ, if_neg c_33, if_pos c_90]; try rfl⟩ (mArr_z _ _ _ _ _) (Nat.le_refl _) (Nat.le_refl _) dX11_carry_138
    · have hnlt := hlt0 q_6 c_33
      refine lv_aload_n hx hb dX11_carry_36 rfl (lv_at hl 1 rfl) ?_
      refine lv_aload_n hx hb dX11_carry_37 rfl (lv_at hl 1 rfl) ?_
      refine g_1132 C hinX11 hW hR.1.1 (mA_32 hR.1) l100 dX11_carry_38 ?_
      refine lv_iload_n hx hb dX11_carry_41 rfl (lv_at hl 0 rfl) ?_
      refine lv_iconst (v := 1) hx hb dX11_carry_42 (by decide) ?_
      refine lv_iadd hx hb dX11_carry_43 ?_
      refine top_i (show (nI (8 * q)) + 1 = nI ((8 * q) + 1) from nI_add (8 * q) 1) ?_
      refine a_Iload C hW (j := ((8 * q) + 1)) (mK_32 hR.1) (mN_32 hR.1) rfl (by omega) (by omega) dX11_carry_44 ?_
      refine top_i (show aI S3 (t 32) ((8 * q) + 1) = (iF g 1100 0).1 32 ((8 * q) + 1) from hR.i 32 ((8 * q) + 1)) ?_
      refine top_i (show (iF g 1100 0).1 32 ((8 * q) + 1) = nI gt from hg1) ?_
      refine lv_aload_n hx hb dX11_carry_45 rfl (lv_at hl 1 rfl) ?_
      refine g_1132 C hinX11 hW hR.1.1 (mA_32 hR.1) l100 dX11_carry_46 ?_
      refine lv_iload_n hx hb dX11_carry_49 rfl (lv_at hl 0 rfl) ?_
      refine lv_iconst (v := 2) hx hb dX11_carry_50 (by decide) ?_
      refine lv_iadd hx hb dX11_carry_51 ?_
      refine top_i (show (nI (8 * q)) + 2 = nI ((8 * q) + 2) from nI_add (8 * q) 2) ?_
      refine a_Iload C hW (j := ((8 * q) + 2)) (mK_32 hR.1) (mN_32 hR.1) rfl (by omega) (by omega) dX11_carry_52 ?_
      refine top_i (show aI S3 (t 32) ((8 * q) + 2) = (iF g 1100 0).1 32 ((8 * q) + 2) from hR.i 32 ((8 * q) + 2)) ?_
      refine top_i (show (iF g 1100 0).1 32 ((8 * q) + 2) = nI kk from hk2) ?_
      refine lv_aload_n hx hb dX11_carry_53 rfl (lv_at hl 1 rfl) ?_
      refine g_1132 C hinX11 hW hR.1.1 (mA_32 hR.1) l100 dX11_carry_54 ?_
      refine lv_iload_n hx hb dX11_carry_57 rfl (lv_at hl 0 rfl) ?_
      refine lv_iconst (v := 3) hx hb dX11_carry_58 (by decide) ?_
      refine lv_iadd hx hb dX11_carry_59 ?_
      refine top_i (show (nI (8 * q)) + 3 = nI ((8 * q) + 3) from nI_add (8 * q) 3) ?_
      refine a_Iload C hW (j := ((8 * q) + 3)) (mK_32 hR.1) (mN_32 hR.1) rfl (by omega) (by omega) dX11_carry_60 ?_
      refine top_i (show aI S3 (t 32) ((8 * q) + 3) = (iF g 1100 0).1 32 ((8 * q) + 3) from hR.i 32 ((8 * q) + 3)) ?_
      refine lv_aload_n hx hb dX11_carry_61 rfl (lv_at hl 1 rfl) ?_
      refine g_1132 C hinX11 hW hR.1.1 (mA_32 hR.1) l100 dX11_carry_62 ?_
      refine lv_iload_n hx hb dX11_carry_65 rfl (lv_at hl 0 rfl) ?_
      refine lv_iconst (v := 4) hx hb dX11_carry_66 (by decide) ?_
      refine lv_iadd hx hb dX11_carry_67 ?_
      refine top_i (show (nI (8 * q)) + 4 = nI ((8 * q) + 4) from nI_add (8 * q) 4) ?_
      refine a_Iload C hW (j := ((8 * q) + 4)) (mK_32 hR.1) (mN_32 hR.1) rfl (by omega) (by omega) dX11_carry_68 ?_
      refine top_i (show aI S3 (t 32) ((8 * q) + 4) = (iF g 1100 0).1 32 ((8 * q) + 4) from hR.i 32 ((8 * q) + 4)) ?_
      refine lv_aload_n hx hb dX11_carry_69 rfl (lv_at hl 1 rfl) ?_
      refine g_1132 C hinX11 hW hR.1.1 (mA_32 hR.1) l100 dX11_carry_70 ?_
      refine lv_iload_n hx hb dX11_carry_73 rfl (lv_at hl 0 rfl) ?_
      refine lv_iconst (v := 5) hx hb dX11_carry_74 (by decide) ?_
      refine lv_iadd hx hb dX11_carry_75 ?_
      refine top_i (show (nI (8 * q)) + 5 = nI ((8 * q) + 5) from nI_add (8 * q) 5) ?_
      refine a_Iload C hW (j := ((8 * q) + 5)) (mK_32 hR.1) (mN_32 hR.1) rfl (by omega) (by omega) dX11_carry_76 ?_
      refine top_i (show aI S3 (t 32) ((8 * q) + 5) = (iF g 1100 0).1 32 ((8 * q) + 5) from hR.i 32 ((8 * q) + 5)) ?_
      refine k_callVi (As := [.int (nI gt), .int (nI kk), .int ((iF g 1100 0).1 32 ((8 * q) + 3)), .int ((iF g 1100 0).1 32 ((8 * q) + 4)), .int ((iF g 1100 0).1 32 ((8 * q) + 5))]) (rest := []) C hml (c_X11_asks (gt := gt) (kk := kk) hR hn hnlt (by omega) (by omega) hw9 hm) (cwV 5 hts gX11_carry_X11_asks rfl rfl rfl (by decide +kernel) ⟨by decide, by decide⟩) hW hS hB (hR.1.1).1 (pAt_11 (hR.1.1).2) rfl rfl hl.1 rfl (Nat.le_of_ble_eq_true rfl) dX11_carry_77 ⟨Nat.le_of_ble_eq_true rfl, Nat.le_of_ble_eq_true rfl⟩ (fun r9 S6 H locs hp9 hW hS => ?_)
      obtain ⟨hO9, hR, e9⟩ := hp9
      replace hO := hO.tr hO9
      subst e9
      clear hO9
      refine lv_goto (tgt := 138) hx hb dX11_carry_80 (by decide) ?_
      exact k_zret C hr hlk hW hS hB ⟨hO, by rw [mCarry, if_pos q_6, nI_clamp (by omega), mCarryQ, if_pos c_33]; (try dsimp only); exact hR, by rw [mCarry, if_pos q_6, nI_clamp (by omega), mCarryQ, if_pos c_33]; try rfl⟩ (mAsks_z _ _ _ _ _ _ _) (Nat.le_refl _) (Nat.le_refl _) dX11_carry_138
def mDrop (g : MS) (p0 : Int32) : MS := if mIsMsg g p0 then iI (iF g 1100 0) 33 p0.toNatClampNeg 0 else iF g 1100 1
set_option maxRecDepth 100000 in
set_option maxHeartbeats 1000000 in
theorem c_X11_drop {l : Launch} {D : va_G} {cy : Nat → ClassId} {B : Nat} {s0 : State} {S : PS} {a0 : Nat} {t : Nat → Nat} {g : MS} {p0 : Int32} (hR : MR S a0 t g) (hm : MsgOk g) : KV l yX11_drop wsX11_drop ({ frames := 1, cells := 0, slots := 0, locals := 21 }) D cy B s0 [.ref a0, .int p0] S (fun S2 => MO S S2 a0 t ∧ MR S2 a0 t (mDrop g p0)) 0 0 := by
  refine k_body (own := RX11) (cc := cX11_drop) (maxL := 2) (ret := none) rfl (by decide) rfl (Nat.le_of_ble_eq_true rfl) ?_
  intro p e s m below meth c C hml hr hlk hnm hB hW ls hl
  obtain ⟨hx, hb, hts, hown, hK, hEn⟩ := id C
  have hS : va_S (Aw B) s.heap s.heap [] := va_S.rf
  have hinX11 : ∀ w ∈ wsX110, w ∈ wsX11_drop := by decide +kernel
  have l103 : Cond.fieldLink RX11 103 "LeaseGatesModel" "isThere" "[Z" ∈ wsX11_drop := by decide +kernel
  have hl : lv_has ls 2 [(0, .ref a0), (1, .int p0)] := hl
  have hO : MO S S a0 t := MO.rf
  refine lv_aload_n hx hb dX11_drop_0 rfl (lv_at hl 0 rfl) ?_
  refine lv_aload_n hx hb dX11_drop_1 rfl (lv_at hl 0 rfl) ?_
  refine lv_iload_n hx hb dX11_drop_2 rfl (lv_at hl 1 rfl) ?_
  refine k_callVi (As := [.int p0]) (rest := [.ref a0]) C hml (c_X11_isMessage hR hm) (cwV 1 hts gX11_drop_X11_isMessage rfl rfl rfl (by decide +kernel) ⟨by decide, by decide⟩) hW hS hB (hR.1.1).1 (pAt_11 (hR.1.1).2) rfl rfl hl.1 rfl (Nat.le_of_ble_eq_true rfl) dX11_drop_3 ⟨Nat.le_of_ble_eq_true rfl, Nat.le_of_ble_eq_true rfl⟩ (fun r9 S1 H locs hp9 hW hS => ?_)
  obtain ⟨e8, e9⟩ := hp9
  rw [e8] at hW
  subst e9
  refine lv_if_eq (tgt := 13) hx hb dX11_drop_6 (by decide) (fun c_6 => ?_) (fun c_6 => ?_)
  · have q_6 : ¬ (mIsMsg g p0) := ite0.mp c_6
    refine lv_iconst (v := 1) hx hb dX11_drop_13 (by decide) ?_
    refine k_callVi (As := [.int 1]) (rest := []) C hml (c_X11_refused hR) (cwV 1 hts gX11_drop_X11_refused rfl rfl rfl (by decide +kernel) ⟨by decide, by decide⟩) hW hS hB (hR.1.1).1 (pAt_11 (hR.1.1).2) rfl rfl hl.1 rfl (Nat.le_of_ble_eq_true rfl) dX11_drop_14 ⟨Nat.le_of_ble_eq_true rfl, Nat.le_of_ble_eq_true rfl⟩ (fun r9 S2 H locs hp9 hW hS => ?_)
    obtain ⟨hO9, hR, e9⟩ := hp9
    replace hO := hO.tr hO9
    obtain rfl : r9 = 1 := e9.trans (by decide)
    clear hO9 e9
    refine lv_if_eq (tgt := 21) hx hb dX11_drop_17 (by decide) (fun c9 => absurd c9 (by decide)) (fun c9 => ?_)
    exact k_vret C hr hlk hW hS hB ⟨hO, by rw [mDrop, if_neg q_6]; exact hR⟩ (Nat.le_refl _) (Nat.le_refl _) dX11_drop_20
  · have q_6 : (mIsMsg g p0) := ite1.mp c_6
    refine lv_iconst (v := 0) hx hb dX11_drop_9 (by decide) ?_
    refine lv_goto (tgt := 14) hx hb dX11_drop_10 (by decide) ?_
    refine k_callVi (As := [.int 0]) (rest := []) C hml (c_X11_refused hR) (cwV 1 hts gX11_drop_X11_refused rfl rfl rfl (by decide +kernel) ⟨by decide, by decide⟩) hW hS hB (hR.1.1).1 (pAt_11 (hR.1.1).2) rfl rfl hl.1 rfl (Nat.le_of_ble_eq_true rfl) dX11_drop_14 ⟨Nat.le_of_ble_eq_true rfl, Nat.le_of_ble_eq_true rfl⟩ (fun r9 S3 H locs hp9 hW hS => ?_)
    obtain ⟨hO9, hR, e9⟩ := hp9
    replace hO := hO.tr hO9
    obtain rfl : r9 = 0 := e9.trans (by decide)
    clear hO9 e9
    refine lv_if_eq (tgt := 21) hx hb dX11_drop_17 (by decide) (fun c9 => ?_) (fun c9 => absurd c9 (by decide))
    obtain ⟨q, hq, rfl⟩ := mIsMsg_q hm q_6
    have hm2 := hm.2
    refine lv_aload_n hx hb dX11_drop_21 rfl (lv_at hl 0 rfl) ?_
    refine g_1133 C hinX11 hW hR.1.1 (mA_33 hR.1) l103 dX11_drop_22 ?_
    refine lv_iload_n hx hb dX11_drop_25 rfl (lv_at hl 1 rfl) ?_
    refine lv_iconst (v := 0) hx hb dX11_drop_26 (by decide) ?_
    refine a_Zstore C hW hS (j := q) (mK_33 hR.1) (mN_33 hR.1) rfl (by omega) (by omega) (by decide) dX11_drop_27 (fun S4 H locs e1 hW hS => ?_)
    have hR : MR S4 a0 t (iI (iF g 1100 0) 33 q 0) := by rw [e1]; exact hR.wI
    replace hO : MO S S4 a0 t := by rw [e1]; exact hO.wI
    clear e1
    exact k_vret C hr hlk hW hS hB ⟨hO, by rw [mDrop, if_pos q_6, nI_clamp (by omega)]; exact hR⟩ (Nat.le_refl _) (Nat.le_refl _) dX11_drop_28
def mCnt (g : MS) (key : Int32) : Nat → Int32
  | 0 => 0
  | h + 1 => if g.1 8 h = key ∧ 0 < g.1 9 h then mCnt g key h + 1 else mCnt g key h
def mRootW (g : MS) (n k : Nat) (w : Int32) : Int32 := if w = 0 then g.1 6 k else if w = 1 then (g.2.1 5 k).toInt32 else if w = 2 then mLent (g.1 8) (g.1 9) (nI k) n else mCnt g (nI k) n
def mRootQ (g : MS) (n : Nat) (p0 p1 : Int32) : MS × Int32 := if (0 ≤ p0 ∧ p0 ≤ 7) ∧ (0 ≤ p1 ∧ p1 ≤ 3) then (iF g 1100 0, mRootW (iF g 1100 0) n p0.toNatClampNeg p1) else (iF g 1100 1, 0)
set_option maxRecDepth 100000 in
set_option maxHeartbeats 1000000 in
theorem c_X11_root {l : Launch} {D : va_G} {cy : Nat → ClassId} {B : Nat} {s0 : State} {S : PS} {a0 : Nat} {t : Nat → Nat} {g : MS} {n : Nat} {p0 p1 : Int32} (hR : MR S a0 t g) (hn : g.2.2 1107 = nI n) (hn3 : n ≤ 300) : KI l yX11_root wsX11_root ({ frames := 1, cells := 0, slots := 0, locals := 23 }) D cy B s0 [.ref a0, .int p0, .int p1] S (fun r S2 => MO S S2 a0 t ∧ MR S2 a0 t (mRootQ g n p0 p1).1 ∧ r = (mRootQ g n p0 p1).2) 0 0 := by
  refine k_body (own := RX11) (cc := cX11_root) (maxL := 5) (ret := (some .int)) rfl (by decide) rfl (Nat.le_of_ble_eq_true rfl) ?_
  intro p e s m below meth c C hml hr hlk hnm hB hW ls hl
  obtain ⟨hx, hb, hts, hown, hK, hEn⟩ := id C
  have hS : va_S (Aw B) s.heap s.heap [] := va_S.rf
  have hinX11 : ∀ w ∈ wsX110, w ∈ wsX11_root := by decide +kernel
  have l23 : Cond.fieldLink RX11 23 "LeaseGatesModel" "levels" "[J" ∈ wsX11_root := by decide +kernel
  have l26 : Cond.fieldLink RX11 26 "LeaseGatesModel" "granted" "[I" ∈ wsX11_root := by decide +kernel
  have l29 : Cond.fieldLink RX11 29 "LeaseGatesModel" "loanKey" "[I" ∈ wsX11_root := by decide +kernel
  have l32 : Cond.fieldLink RX11 32 "LeaseGatesModel" "loanTokens" "[I" ∈ wsX11_root := by decide +kernel
  have l111 : Cond.fieldLink RX11 111 "LeaseGatesModel" "loans" "I" ∈ wsX11_root := by decide +kernel
  have hl : lv_has ls 5 [(0, .ref a0), (1, .int p0), (2, .int p1)] := hl
  have hO : MO S S a0 t := MO.rf
  refine lv_aload_n hx hb dX11_root_0 rfl (lv_at hl 0 rfl) ?_
  refine lv_iload_n hx hb dX11_root_1 rfl (lv_at hl 1 rfl) ?_
  refine lv_iconst (v := 0) hx hb dX11_root_2 (by decide) ?_
  refine lv_bipush (v := 7) hx hb dX11_root_3 (by decide) ?_
  refine k_callSi (As := [.int p0, .int 0, .int 7]) (rest := [.ref a0]) C hml (c_X11_isIn) (va_cwS 3 hts gX11_root_X11_isIn rfl rfl rfl (by decide +kernel) ⟨by decide, by decide⟩) hW hS hB rfl hl.1 rfl (Nat.le_of_ble_eq_true rfl) dX11_root_5 ⟨Nat.le_of_ble_eq_true rfl, Nat.le_of_ble_eq_true rfl⟩ (fun r9 S1 H locs hp9 hW hS => ?_)
  obtain ⟨e8, e9⟩ := hp9
  rw [e8] at hW
  subst e9
  refine lv_if_eq (tgt := 24) hx hb dX11_root_8 (by decide) (fun c_8 => ?_) (fun c_8 => ?_)
  · have q_8 : ¬ (0 ≤ p0 ∧ p0 ≤ 7) := ite0.mp c_8
    refine lv_iconst (v := 1) hx hb dX11_root_24 (by decide) ?_
    refine k_callVi (As := [.int 1]) (rest := []) C hml (c_X11_refused hR) (cwV 1 hts gX11_root_X11_refused rfl rfl rfl (by decide +kernel) ⟨by decide, by decide⟩) hW hS hB (hR.1.1).1 (pAt_11 (hR.1.1).2) rfl rfl hl.1 rfl (Nat.le_of_ble_eq_true rfl) dX11_root_25 ⟨Nat.le_of_ble_eq_true rfl, Nat.le_of_ble_eq_true rfl⟩ (fun r9 S2 H locs hp9 hW hS => ?_)
    obtain ⟨hO9, hR, e9⟩ := hp9
    replace hO := hO.tr hO9
    obtain rfl : r9 = 1 := e9.trans (by decide)
    clear hO9 e9
    refine lv_if_eq (tgt := 33) hx hb dX11_root_28 (by decide) (fun c9 => absurd c9 (by decide)) (fun c9 => ?_)
    refine lv_iconst (v := 0) hx hb dX11_root_31 (by decide) ?_
    exact k_iret C hr hlk hW hS hB ⟨hO, by rw [mRootQ, if_neg (fun z => by first | exact q_8 z.1 | exact q_17 z.2)]; dsimp only; exact hR, by rw [mRootQ, if_neg (fun z => by first | exact q_8 z.1 | exact q_17 z.2)]⟩ (Nat.le_refl _) (Nat.le_refl _) dX11_root_32
  · have q_8 : (0 ≤ p0 ∧ p0 ≤ 7) := ite1.mp c_8
    refine lv_iload_n hx hb dX11_root_11 rfl (lv_at hl 2 rfl) ?_
    refine lv_iconst (v := 0) hx hb dX11_root_12 (by decide) ?_
    refine lv_iconst (v := 3) hx hb dX11_root_13 (by decide) ?_
    refine k_callSi (As := [.int p1, .int 0, .int 3]) (rest := [.ref a0]) C hml (c_X11_isIn) (va_cwS 3 hts gX11_root_X11_isIn rfl rfl rfl (by decide +kernel) ⟨by decide, by decide⟩) hW hS hB rfl hl.1 rfl (Nat.le_of_ble_eq_true rfl) dX11_root_14 ⟨Nat.le_of_ble_eq_true rfl, Nat.le_of_ble_eq_true rfl⟩ (fun r9 S3 H locs hp9 hW hS => ?_)
    obtain ⟨e8, e9⟩ := hp9
    rw [e8] at hW
    subst e9
    refine lv_if_eq (tgt := 24) hx hb dX11_root_17 (by decide) (fun c_17 => ?_) (fun c_17 => ?_)
    · have q_17 : ¬ (0 ≤ p1 ∧ p1 ≤ 3) := ite0.mp c_17
      refine lv_iconst (v := 1) hx hb dX11_root_24 (by decide) ?_
      refine k_callVi (As := [.int 1]) (rest := []) C hml (c_X11_refused hR) (cwV 1 hts gX11_root_X11_refused rfl rfl rfl (by decide +kernel) ⟨by decide, by decide⟩) hW hS hB (hR.1.1).1 (pAt_11 (hR.1.1).2) rfl rfl hl.1 rfl (Nat.le_of_ble_eq_true rfl) dX11_root_25 ⟨Nat.le_of_ble_eq_true rfl, Nat.le_of_ble_eq_true rfl⟩ (fun r9 S4 H locs hp9 hW hS => ?_)
      obtain ⟨hO9, hR, e9⟩ := hp9
      replace hO := hO.tr hO9
      obtain rfl : r9 = 1 := e9.trans (by decide)
      clear hO9 e9
      refine lv_if_eq (tgt := 33) hx hb dX11_root_28 (by decide) (fun c9 => absurd c9 (by decide)) (fun c9 => ?_)
      refine lv_iconst (v := 0) hx hb dX11_root_31 (by decide) ?_
      exact k_iret C hr hlk hW hS hB ⟨hO, by rw [mRootQ, if_neg (fun z => by first | exact q_8 z.1 | exact q_17 z.2)]; dsimp only; exact hR, by rw [mRootQ, if_neg (fun z => by first | exact q_8 z.1 | exact q_17 z.2)]⟩ (Nat.le_refl _) (Nat.le_refl _) dX11_root_32
    · have q_17 : (0 ≤ p1 ∧ p1 ≤ 3) := ite1.mp c_17
      refine lv_iconst (v := 0) hx hb dX11_root_20 (by decide) ?_
      refine lv_goto (tgt := 25) hx hb dX11_root_21 (by decide) ?_
      refine k_callVi (As := [.int 0]) (rest := []) C hml (c_X11_refused hR) (cwV 1 hts gX11_root_X11_refused rfl rfl rfl (by decide +kernel) ⟨by decide, by decide⟩) hW hS hB (hR.1.1).1 (pAt_11 (hR.1.1).2) rfl rfl hl.1 rfl (Nat.le_of_ble_eq_true rfl) dX11_root_25 ⟨Nat.le_of_ble_eq_true rfl, Nat.le_of_ble_eq_true rfl⟩ (fun r9 S5 H locs hp9 hW hS => ?_)
      obtain ⟨hO9, hR, e9⟩ := hp9
      replace hO := hO.tr hO9
      obtain rfl : r9 = 0 := e9.trans (by decide)
      clear hO9 e9
      refine lv_if_eq (tgt := 33) hx hb dX11_root_28 (by decide) (fun c9 => ?_) (fun c9 => absurd c9 (by decide))
      obtain ⟨k, hk, rfl⟩ := rngN 7 (by decide) q_8
      refine lv_iconst (v := 0) hx hb dX11_root_33 (by decide) ?_
      refine lv_istore_n (lv' := [(3, .int 0), (0, .ref a0), (1, .int (nI k)), (2, .int p1)]) hx hb dX11_root_34 rfl hl (by decide) rfl (fun ls hl => ?_)
      refine lv_iconst (v := 0) hx hb dX11_root_35 (by decide) ?_
      refine lv_istore (lv' := [(4, .int 0), (3, .int 0), (0, .ref a0), (1, .int (nI k)), (2, .int p1)]) hx hb dX11_root_36 hl (by decide) rfl (fun ls hl => ?_)
      have lp : ∀ (d kx : Nat) (x3 : Int32) (ls : Array Slot), kx ≤ n → n - kx < d → x3 = mCnt (iF g 1100 0) (nI k) kx → lv_has ls 5 [(0, .ref a0), (1, .int (nI k)), (2, .int p1), (3, .int x3), (4, .int (nI kx))] → W p l e ({ frames := 1, cells := 0, slots := 0, locals := 23 }) s m [.ref a0, .int (nI k), .int p1].toArray below meth c H locs 0 0 (MQ below (va_Qi (fun r S2 => MO S S2 a0 t ∧ MR S2 a0 t (mRootQ g n (nI k) p1).1 ∧ r = (mRootQ g n (nI k) p1).2) (PreW D cy B s0) (Aw B)) [.ref a0, .int (nI k), .int p1].toArray s 0 0 (Aw B)) (F0 m 38 ls []) := by
        intro d
        induction d with
        | zero => intro kx x3 ls _ hd; exact absurd hd (Nat.not_lt_zero _)
        | succ d ih =>
          intro kx x3 ls hk hd e3 hl
          refine lv_iload hx hb dX11_root_38 (lv_at hl 4 rfl) ?_
          refine lv_aload_n hx hb dX11_root_40 rfl (lv_at hl 0 rfl) ?_
          refine g_1107 C hinX11 hW hR.1.1 l111 dX11_root_41 ?_
          refine top_i (show fI S5 1107 a0 = nI n from (hR.f 1107).trans hn) ?_
          refine lv_icmp_ge (tgt := 82) hx hb dX11_root_44 (by decide) (fun c_44 => ?_) (fun c_44 => ?_)
          · have q_44 : n ≤ kx := (nI_leI (a := n) (b := kx) (by omega) (by omega)).mp c_44
            refine lv_iload_n hx hb dX11_root_82 rfl (lv_at hl 2 rfl) ?_
            refine lv_if_ne (tgt := 95) hx hb dX11_root_83 (by decide) (fun c_83 => ?_) (fun c_83 => ?_)
            · refine lv_iload_n hx hb dX11_root_95 rfl (lv_at hl 2 rfl) ?_
              refine lv_iconst (v := 1) hx hb dX11_root_96 (by decide) ?_
              refine lv_icmp_ne (tgt := 110) hx hb dX11_root_97 (by decide) (fun c_97 => ?_) (fun c_97 => ?_)
              · refine lv_iload_n hx hb dX11_root_110 rfl (lv_at hl 2 rfl) ?_
                refine lv_iconst (v := 2) hx hb dX11_root_111 (by decide) ?_
                refine lv_icmp_ne (tgt := 123) hx hb dX11_root_112 (by decide) (fun c_112 => ?_) (fun c_112 => ?_)
                · refine lv_iload_n hx hb dX11_root_123 rfl (lv_at hl 3 rfl) ?_
                  exact k_iret C hr hlk hW hS hB ⟨hO, by rw [mRootQ, if_pos ⟨q_8, q_17⟩]; dsimp only; exact hR, by rw [mRootQ, if_pos ⟨q_8, q_17⟩, nI_clamp (by omega)]; dsimp only; rw [mRootW, if_neg c_83, if_neg c_97, if_neg c_112, e3, show kx = n by omega]⟩ (Nat.le_refl _) (Nat.le_refl _) dX11_root_124
                · refine lv_aload_n hx hb dX11_root_115 rfl (lv_at hl 0 rfl) ?_
                  refine lv_iload_n hx hb dX11_root_116 rfl (lv_at hl 1 rfl) ?_
                  refine k_callVi (As := [.int (nI k)]) (rest := []) C hml (c_X11_lent hR hn hn3) (cwV 1 hts gX11_root_X11_lent rfl rfl rfl (by decide +kernel) ⟨by decide, by decide⟩) hW hS hB (hR.1.1).1 (pAt_11 (hR.1.1).2) rfl rfl hl.1 rfl (Nat.le_of_ble_eq_true rfl) dX11_root_117 ⟨Nat.le_of_ble_eq_true rfl, Nat.le_of_ble_eq_true rfl⟩ (fun r9 S6 H locs hp9 hW hS => ?_)
                  obtain ⟨e8, e9⟩ := hp9
                  rw [e8] at hW
                  subst e9
                  refine lv_goto (tgt := 124) hx hb dX11_root_120 (by decide) ?_
                  exact k_iret C hr hlk hW hS hB ⟨hO, by rw [mRootQ, if_pos ⟨q_8, q_17⟩]; dsimp only; exact hR, by rw [mRootQ, if_pos ⟨q_8, q_17⟩, nI_clamp (by omega)]; dsimp only; rw [mRootW, if_neg c_83, if_neg c_97, if_pos c_112]⟩ (Nat.le_refl _) (Nat.le_refl _) dX11_root_124
              · refine lv_aload_n hx hb dX11_root_100 rfl (lv_at hl 0 rfl) ?_
                refine g_1105 C hinX11 hW hR.1.1 (mA_5 hR.1) l23 dX11_root_101 ?_
                refine lv_iload_n hx hb dX11_root_104 rfl (lv_at hl 1 rfl) ?_
                refine a_Jload C hW (j := k) (mK_5 hR.1) (mN_5 hR.1) rfl (by omega) (by omega) dX11_root_105 ?_
                refine top_l (show aJ S5 (t 5) k = (iF g 1100 0).2.1 5 k from hR.l 5 k) ?_
                refine lv_l2i (v := ((iF g 1100 0).2.1 5 k).toInt32) hx hb dX11_root_106 rfl ?_
                refine lv_goto (tgt := 124) hx hb dX11_root_107 (by decide) ?_
                exact k_iret C hr hlk hW hS hB ⟨hO, by rw [mRootQ, if_pos ⟨q_8, q_17⟩]; dsimp only; exact hR, by rw [mRootQ, if_pos ⟨q_8, q_17⟩, nI_clamp (by omega)]; dsimp only; rw [mRootW, if_neg c_83, if_pos c_97]⟩ (Nat.le_refl _) (Nat.le_refl _) dX11_root_124
            · refine lv_aload_n hx hb dX11_root_86 rfl (lv_at hl 0 rfl) ?_
              refine g_1106 C hinX11 hW hR.1.1 (mA_6 hR.1) l26 dX11_root_87 ?_
              refine lv_iload_n hx hb dX11_root_90 rfl (lv_at hl 1 rfl) ?_
              refine a_Iload C hW (j := k) (mK_6 hR.1) (mN_6 hR.1) rfl (by omega) (by omega) dX11_root_91 ?_
              refine top_i (show aI S5 (t 6) k = (iF g 1100 0).1 6 k from hR.i 6 k) ?_
              refine lv_goto (tgt := 124) hx hb dX11_root_92 (by decide) ?_
              exact k_iret C hr hlk hW hS hB ⟨hO, by rw [mRootQ, if_pos ⟨q_8, q_17⟩]; dsimp only; exact hR, by rw [mRootQ, if_pos ⟨q_8, q_17⟩, nI_clamp (by omega)]; dsimp only; rw [mRootW, if_pos c_83]⟩ (Nat.le_refl _) (Nat.le_refl _) dX11_root_124
          · have q_44 : ¬ (n ≤ kx) := fun z => c_44 ((nI_leI (a := n) (b := kx) (by omega) (by omega)).mpr z)
            refine lv_aload_n hx hb dX11_root_47 rfl (lv_at hl 0 rfl) ?_
            refine g_1108 C hinX11 hW hR.1.1 (mA_8 hR.1) l29 dX11_root_48 ?_
            refine lv_iload hx hb dX11_root_51 (lv_at hl 4 rfl) ?_
            refine a_Iload C hW (j := kx) (mK_8 hR.1) (mN_8 hR.1) rfl (by omega) (by omega) dX11_root_53 ?_
            refine top_i (show aI S5 (t 8) kx = (iF g 1100 0).1 8 kx from hR.i 8 kx) ?_
            refine lv_iload_n hx hb dX11_root_54 rfl (lv_at hl 1 rfl) ?_
            refine lv_icmp_ne (tgt := 74) hx hb dX11_root_55 (by decide) (fun c_55 => ?_) (fun c_55 => ?_)
            · refine lv_iload_n hx hb dX11_root_74 rfl (lv_at hl 3 rfl) ?_
              refine lv_istore_n (lv' := [(3, .int x3), (0, .ref a0), (1, .int (nI k)), (2, .int p1), (4, .int (nI kx))]) hx hb dX11_root_75 rfl hl (by decide) rfl (fun ls hl => ?_)
              refine lv_iinc (v := nI (kx + 1)) (lv' := [(4, .int (nI (kx + 1))), (3, .int x3), (0, .ref a0), (1, .int (nI k)), (2, .int p1)]) hx hb dX11_root_76 hl (k := 4) rfl (nI_add kx 1) (by decide) rfl (fun ls hl => ?_)
              refine lv_goto (tgt := 38) hx hb dX11_root_79 (by decide) ?_
              exact ih (kx + 1) _ ls (by omega) (by omega) (by rw [e3, mCnt, if_neg (fun z => c_55 z.1)]) (lv_sub hl [2, 3, 4, 1, 0] rfl)
            · refine lv_aload_n hx hb dX11_root_58 rfl (lv_at hl 0 rfl) ?_
              refine g_1109 C hinX11 hW hR.1.1 (mA_9 hR.1) l32 dX11_root_59 ?_
              refine lv_iload hx hb dX11_root_62 (lv_at hl 4 rfl) ?_
              refine a_Iload C hW (j := kx) (mK_9 hR.1) (mN_9 hR.1) rfl (by omega) (by omega) dX11_root_64 ?_
              refine top_i (show aI S5 (t 9) kx = (iF g 1100 0).1 9 kx from hR.i 9 kx) ?_
              refine lv_if_le (tgt := 74) hx hb dX11_root_65 (by decide) (fun c_65 => ?_) (fun c_65 => ?_)
              · refine lv_iload_n hx hb dX11_root_74 rfl (lv_at hl 3 rfl) ?_
                refine lv_istore_n (lv' := [(3, .int x3), (0, .ref a0), (1, .int (nI k)), (2, .int p1), (4, .int (nI kx))]) hx hb dX11_root_75 rfl hl (by decide) rfl (fun ls hl => ?_)
                refine lv_iinc (v := nI (kx + 1)) (lv' := [(4, .int (nI (kx + 1))), (3, .int x3), (0, .ref a0), (1, .int (nI k)), (2, .int p1)]) hx hb dX11_root_76 hl (k := 4) rfl (nI_add kx 1) (by decide) rfl (fun ls hl => ?_)
                refine lv_goto (tgt := 38) hx hb dX11_root_79 (by decide) ?_
                exact ih (kx + 1) _ ls (by omega) (by omega) (by rw [e3, mCnt, if_neg (fun z => absurd z.2 (Int32.not_lt.mpr c_65))]) (lv_sub hl [2, 3, 4, 1, 0] rfl)
              · refine lv_iload_n hx hb dX11_root_68 rfl (lv_at hl 3 rfl) ?_
                refine lv_iconst (v := 1) hx hb dX11_root_69 (by decide) ?_
                refine lv_iadd hx hb dX11_root_70 ?_
                refine lv_goto (tgt := 75) hx hb dX11_root_71 (by decide) ?_
                refine lv_istore_n (lv' := [(3, .int (x3 + 1)), (0, .ref a0), (1, .int (nI k)), (2, .int p1), (4, .int (nI kx))]) hx hb dX11_root_75 rfl hl (by decide) rfl (fun ls hl => ?_)
                refine lv_iinc (v := nI (kx + 1)) (lv' := [(4, .int (nI (kx + 1))), (3, .int (x3 + 1)), (0, .ref a0), (1, .int (nI k)), (2, .int p1)]) hx hb dX11_root_76 hl (k := 4) rfl (nI_add kx 1) (by decide) rfl (fun ls hl => ?_)
                refine lv_goto (tgt := 38) hx hb dX11_root_79 (by decide) ?_
                exact ih (kx + 1) _ ls (by omega) (by omega) (by rw [e3, mCnt, if_pos ⟨c_55, Int32.not_le.mp c_65⟩]) (lv_sub hl [2, 3, 4, 1, 0] rfl)
      exact lp (n - 0 + 1) 0 0 ls (by omega) (by omega) rfl (lv_sub hl [2, 3, 4, 1, 0] rfl)
def mCntH (g : MS) (gt kk : Nat) : Nat → Int32
  | 0 => 0
  | h + 1 => if mHold g gt kk h then mCntH g gt kk h + 1 else mCntH g gt kk h
def mGateW (g : MS) (n gt kk w : Nat) : Int32 := if w = 0 then mLiveSum g gt kk n else if w = 1 then mCntH g gt kk n else if w = 2 then g.1 21 (8 * gt + kk) else if w = 3 then g.1 22 (8 * gt + kk) else if w = 4 then g.1 23 (8 * gt + kk) else if w = 5 then (if g.1 24 (8 * gt + kk) = 0 then 0 else 1) else g.1 26 (8 * gt + kk)
def mGateQ (g : MS) (n : Nat) (p0 p1 p2 : Int32) : MS × Int32 := if ((0 ≤ p0 ∧ p0 ≤ 5) ∧ (0 ≤ p1 ∧ p1 ≤ 7)) ∧ (0 ≤ p2 ∧ p2 ≤ 6) then (iF g 1100 0, mGateW (iF g 1100 0) n p0.toNatClampNeg p1.toNatClampNeg p2.toNatClampNeg) else (iF g 1100 1, 0)
set_option maxRecDepth 100000 in
set_option maxHeartbeats 1000000 in
theorem c_X11_gate {l : Launch} {D : va_G} {cy : Nat → ClassId} {B : Nat} {s0 : State} {S : PS} {a0 : Nat} {t : Nat → Nat} {g : MS} {n : Nat} {p0 p1 p2 : Int32} (hR : MR S a0 t g) (hn : g.2.2 1107 = nI n) (hn3 : n ≤ 300) : KI l yX11_gate wsX11_gate ({ frames := 4, cells := 0, slots := 0, locals := 89 }) D cy B s0 [.ref a0, .int p0, .int p1, .int p2] S (fun r S2 => MO S S2 a0 t ∧ MR S2 a0 t (mGateQ g n p0 p1 p2).1 ∧ r = (mGateQ g n p0 p1 p2).2) 0 0 := by
  refine k_body (own := RX11) (cc := cX11_gate) (maxL := 7) (ret := (some .int)) rfl (by decide) rfl (Nat.le_of_ble_eq_true rfl) ?_
  intro p e s m below meth c C hml hr hlk hnm hB hW ls hl
  obtain ⟨hx, hb, hts, hown, hK, hEn⟩ := id C
  have hS : va_S (Aw B) s.heap s.heap [] := va_S.rf
  have hinX11 : ∀ w ∈ wsX110, w ∈ wsX11_gate := by decide +kernel
  have l70 : Cond.fieldLink RX11 70 "LeaseGatesModel" "demand" "[I" ∈ wsX11_gate := by decide +kernel
  have l73 : Cond.fieldLink RX11 73 "LeaseGatesModel" "use" "[I" ∈ wsX11_gate := by decide +kernel
  have l76 : Cond.fieldLink RX11 76 "LeaseGatesModel" "counts" "[I" ∈ wsX11_gate := by decide +kernel
  have l79 : Cond.fieldLink RX11 79 "LeaseGatesModel" "isOpen" "[Z" ∈ wsX11_gate := by decide +kernel
  have l85 : Cond.fieldLink RX11 85 "LeaseGatesModel" "refusals" "[I" ∈ wsX11_gate := by decide +kernel
  have l111 : Cond.fieldLink RX11 111 "LeaseGatesModel" "loans" "I" ∈ wsX11_gate := by decide +kernel
  have hl : lv_has ls 7 [(0, .ref a0), (1, .int p0), (2, .int p1), (3, .int p2)] := hl
  have hO : MO S S a0 t := MO.rf
  refine lv_aload_n hx hb dX11_gate_0 rfl (lv_at hl 0 rfl) ?_
  refine lv_iload_n hx hb dX11_gate_1 rfl (lv_at hl 1 rfl) ?_
  refine lv_iload_n hx hb dX11_gate_2 rfl (lv_at hl 2 rfl) ?_
  refine k_callSi (As := [.int p0, .int p1]) (rest := [.ref a0]) C hml (c_X11_isPlace) (va_cwS 2 hts gX11_gate_X11_isPlace rfl rfl rfl (by decide +kernel) ⟨by decide, by decide⟩) hW hS hB rfl hl.1 rfl (Nat.le_of_ble_eq_true rfl) dX11_gate_3 ⟨Nat.le_of_ble_eq_true rfl, Nat.le_of_ble_eq_true rfl⟩ (fun r9 S1 H locs hp9 hW hS => ?_)
  obtain ⟨e8, e9⟩ := hp9
  rw [e8] at hW
  subst e9
  refine lv_if_eq (tgt := 23) hx hb dX11_gate_6 (by decide) (fun c_6 => ?_) (fun c_6 => ?_)
  · have q_6 : ¬ ((0 ≤ p0 ∧ p0 ≤ 5) ∧ (0 ≤ p1 ∧ p1 ≤ 7)) := ite0.mp c_6
    refine lv_iconst (v := 1) hx hb dX11_gate_23 (by decide) ?_
    refine k_callVi (As := [.int 1]) (rest := []) C hml (c_X11_refused hR) (cwV 1 hts gX11_gate_X11_refused rfl rfl rfl (by decide +kernel) ⟨by decide, by decide⟩) hW hS hB (hR.1.1).1 (pAt_11 (hR.1.1).2) rfl rfl hl.1 rfl (Nat.le_of_ble_eq_true rfl) dX11_gate_24 ⟨Nat.le_of_ble_eq_true rfl, Nat.le_of_ble_eq_true rfl⟩ (fun r9 S2 H locs hp9 hW hS => ?_)
    obtain ⟨hO9, hR, e9⟩ := hp9
    replace hO := hO.tr hO9
    obtain rfl : r9 = 1 := e9.trans (by decide)
    clear hO9 e9
    refine lv_if_eq (tgt := 32) hx hb dX11_gate_27 (by decide) (fun c9 => absurd c9 (by decide)) (fun c9 => ?_)
    refine lv_iconst (v := 0) hx hb dX11_gate_30 (by decide) ?_
    exact k_iret C hr hlk hW hS hB ⟨hO, by rw [mGateQ, if_neg (fun z => by first | exact q_6 z.1 | exact q_16 z.2)]; dsimp only; exact hR, by rw [mGateQ, if_neg (fun z => by first | exact q_6 z.1 | exact q_16 z.2)]⟩ (Nat.le_refl _) (Nat.le_refl _) dX11_gate_31
  · have q_6 : ((0 ≤ p0 ∧ p0 ≤ 5) ∧ (0 ≤ p1 ∧ p1 ≤ 7)) := ite1.mp c_6
    refine lv_iload_n hx hb dX11_gate_9 rfl (lv_at hl 3 rfl) ?_
    refine lv_iconst (v := 0) hx hb dX11_gate_10 (by decide) ?_
    refine lv_bipush (v := 6) hx hb dX11_gate_11 (by decide) ?_
    refine k_callSi (As := [.int p2, .int 0, .int 6]) (rest := [.ref a0]) C hml (c_X11_isIn) (va_cwS 3 hts gX11_gate_X11_isIn rfl rfl rfl (by decide +kernel) ⟨by decide, by decide⟩) hW hS hB rfl hl.1 rfl (Nat.le_of_ble_eq_true rfl) dX11_gate_13 ⟨Nat.le_of_ble_eq_true rfl, Nat.le_of_ble_eq_true rfl⟩ (fun r9 S3 H locs hp9 hW hS => ?_)
    obtain ⟨e8, e9⟩ := hp9
    rw [e8] at hW
    subst e9
    refine lv_if_eq (tgt := 23) hx hb dX11_gate_16 (by decide) (fun c_16 => ?_) (fun c_16 => ?_)
    · have q_16 : ¬ (0 ≤ p2 ∧ p2 ≤ 6) := ite0.mp c_16
      refine lv_iconst (v := 1) hx hb dX11_gate_23 (by decide) ?_
      refine k_callVi (As := [.int 1]) (rest := []) C hml (c_X11_refused hR) (cwV 1 hts gX11_gate_X11_refused rfl rfl rfl (by decide +kernel) ⟨by decide, by decide⟩) hW hS hB (hR.1.1).1 (pAt_11 (hR.1.1).2) rfl rfl hl.1 rfl (Nat.le_of_ble_eq_true rfl) dX11_gate_24 ⟨Nat.le_of_ble_eq_true rfl, Nat.le_of_ble_eq_true rfl⟩ (fun r9 S4 H locs hp9 hW hS => ?_)
      obtain ⟨hO9, hR, e9⟩ := hp9
      replace hO := hO.tr hO9
      obtain rfl : r9 = 1 := e9.trans (by decide)
      clear hO9 e9
      refine lv_if_eq (tgt := 32) hx hb dX11_gate_27 (by decide) (fun c9 => absurd c9 (by decide)) (fun c9 => ?_)
      refine lv_iconst (v := 0) hx hb dX11_gate_30 (by decide) ?_
      exact k_iret C hr hlk hW hS hB ⟨hO, by rw [mGateQ, if_neg (fun z => by first | exact q_6 z.1 | exact q_16 z.2)]; dsimp only; exact hR, by rw [mGateQ, if_neg (fun z => by first | exact q_6 z.1 | exact q_16 z.2)]⟩ (Nat.le_refl _) (Nat.le_refl _) dX11_gate_31
    · have q_16 : (0 ≤ p2 ∧ p2 ≤ 6) := ite1.mp c_16
      refine lv_iconst (v := 0) hx hb dX11_gate_19 (by decide) ?_
      refine lv_goto (tgt := 24) hx hb dX11_gate_20 (by decide) ?_
      refine k_callVi (As := [.int 0]) (rest := []) C hml (c_X11_refused hR) (cwV 1 hts gX11_gate_X11_refused rfl rfl rfl (by decide +kernel) ⟨by decide, by decide⟩) hW hS hB (hR.1.1).1 (pAt_11 (hR.1.1).2) rfl rfl hl.1 rfl (Nat.le_of_ble_eq_true rfl) dX11_gate_24 ⟨Nat.le_of_ble_eq_true rfl, Nat.le_of_ble_eq_true rfl⟩ (fun r9 S5 H locs hp9 hW hS => ?_)
      obtain ⟨hO9, hR, e9⟩ := hp9
      replace hO := hO.tr hO9
      obtain rfl : r9 = 0 := e9.trans (by decide)
      clear hO9 e9
      refine lv_if_eq (tgt := 32) hx hb dX11_gate_27 (by decide) (fun c9 => ?_) (fun c9 => absurd c9 (by decide))
      obtain ⟨gt, hgt, rfl⟩ := rngN 5 (by decide) q_6.1
      obtain ⟨kk, hkk, rfl⟩ := rngN 7 (by decide) q_6.2
      obtain ⟨w, hw, rfl⟩ := rngN 6 (by decide) q_16
      refine lv_bipush (v := 8) hx hb dX11_gate_32 (by decide) ?_
      refine lv_iload_n hx hb dX11_gate_34 rfl (lv_at hl 1 rfl) ?_
      refine lv_imul hx hb dX11_gate_35 ?_
      refine top_i (show 8 * (nI gt) = nI (8 * gt) from pk_mul 8 gt) ?_
      refine lv_iload_n hx hb dX11_gate_36 rfl (lv_at hl 2 rfl) ?_
      refine lv_iadd hx hb dX11_gate_37 ?_
      refine top_i (show (nI (8 * gt)) + (nI kk) = nI ((8 * gt) + kk) from nI_add (8 * gt) kk) ?_
      refine lv_istore (lv' := [(4, .int (nI ((8 * gt) + kk))), (0, .ref a0), (1, .int (nI gt)), (2, .int (nI kk)), (3, .int (nI w))]) hx hb dX11_gate_38 hl (by decide) rfl (fun ls hl => ?_)
      refine lv_iconst (v := 0) hx hb dX11_gate_40 (by decide) ?_
      refine lv_istore (lv' := [(5, .int 0), (4, .int (nI ((8 * gt) + kk))), (0, .ref a0), (1, .int (nI gt)), (2, .int (nI kk)), (3, .int (nI w))]) hx hb dX11_gate_41 hl (by decide) rfl (fun ls hl => ?_)
      refine lv_iconst (v := 0) hx hb dX11_gate_43 (by decide) ?_
      refine lv_istore (lv' := [(6, .int 0), (5, .int 0), (4, .int (nI ((8 * gt) + kk))), (0, .ref a0), (1, .int (nI gt)), (2, .int (nI kk)), (3, .int (nI w))]) hx hb dX11_gate_44 hl (by decide) rfl (fun ls hl => ?_)
      have lp : ∀ (d kx : Nat) (x5 : Int32) (H : Heap) (locs : List Loc) (ls : Array Slot), kx ≤ n → n - kx < d → x5 = mCntH (iF g 1100 0) gt kk kx → PW D cy B S5 H → va_S (Aw B) s.heap H locs → lv_has ls 7 [(0, .ref a0), (1, .int (nI gt)), (2, .int (nI kk)), (3, .int (nI w)), (4, .int (nI ((8 * gt) + kk))), (5, .int x5), (6, .int (nI kx))] → W p l e ({ frames := 4, cells := 0, slots := 0, locals := 89 }) s m [.ref a0, .int (nI gt), .int (nI kk), .int (nI w)].toArray below meth c H locs 0 0 (MQ below (va_Qi (fun r S2 => MO S S2 a0 t ∧ MR S2 a0 t (mGateQ g n (nI gt) (nI kk) (nI w)).1 ∧ r = (mGateQ g n (nI gt) (nI kk) (nI w)).2) (PreW D cy B s0) (Aw B)) [.ref a0, .int (nI gt), .int (nI kk), .int (nI w)].toArray s 0 0 (Aw B)) (F0 m 46 ls []) := by
        intro d
        induction d with
        | zero => intro kx x5 H locs ls _ hd; exact absurd hd (Nat.not_lt_zero _)
        | succ d ih =>
          intro kx x5 H locs ls hk hd e5 hW hS hl
          refine lv_iload hx hb dX11_gate_46 (lv_at hl 6 rfl) ?_
          refine lv_aload_n hx hb dX11_gate_48 rfl (lv_at hl 0 rfl) ?_
          refine g_1107 C hinX11 hW hR.1.1 l111 dX11_gate_49 ?_
          refine top_i (show fI S5 1107 a0 = nI n from (hR.f 1107).trans hn) ?_
          refine lv_icmp_ge (tgt := 83) hx hb dX11_gate_52 (by decide) (fun c_52 => ?_) (fun c_52 => ?_)
          · have q_52 : n ≤ kx := (nI_leI (a := n) (b := kx) (by omega) (by omega)).mp c_52
            refine lv_iload_n hx hb dX11_gate_83 rfl (lv_at hl 3 rfl) ?_
            rcases (show w = 0 ∨ w = 1 ∨ w = 2 ∨ w = 3 ∨ w = 4 ∨ w = 5 ∨ w = 6 by omega) with rfl | rfl | rfl | rfl | rfl | rfl | rfl
            · refine lv_tableIn (tgt := 124) (off := 40) hx hb dX11_gate_84 (by decide) (by decide) (by decide) (by decide) ?_
              refine lv_aload_n hx hb dX11_gate_124 rfl (lv_at hl 0 rfl) ?_
              refine lv_iload_n hx hb dX11_gate_125 rfl (lv_at hl 1 rfl) ?_
              refine lv_iload_n hx hb dX11_gate_126 rfl (lv_at hl 2 rfl) ?_
              refine k_callVi (As := [.int (nI gt), .int (nI kk)]) (rest := []) C hml (c_X11_live (gt := gt) (kk := kk) hR hn hn3 (by omega)) (cwV 2 hts gX11_gate_X11_live rfl rfl rfl (by decide +kernel) ⟨by decide, by decide⟩) hW hS hB (hR.1.1).1 (pAt_11 (hR.1.1).2) rfl rfl hl.1 rfl (Nat.le_of_ble_eq_true rfl) dX11_gate_127 ⟨Nat.le_of_ble_eq_true rfl, Nat.le_of_ble_eq_true rfl⟩ (fun r9 S6 H locs hp9 hW hS => ?_)
              obtain ⟨e8, e9⟩ := hp9
              rw [e8] at hW
              subst e9
              exact k_iret C hr hlk hW hS hB ⟨hO, by rw [mGateQ, if_pos ⟨q_6, q_16⟩]; dsimp only; exact hR, by rw [mGateQ, if_pos ⟨q_6, q_16⟩, nI_clamp (by omega), nI_clamp (by omega), nI_clamp (by omega)]; dsimp only; rfl⟩ (Nat.le_refl _) (Nat.le_refl _) dX11_gate_130
            · refine lv_tableIn (tgt := 131) (off := 47) hx hb dX11_gate_84 (by decide) (by decide) (by decide) (by decide) ?_
              refine lv_iload hx hb dX11_gate_131 (lv_at hl 5 rfl) ?_
              exact k_iret C hr hlk hW hS hB ⟨hO, by rw [mGateQ, if_pos ⟨q_6, q_16⟩]; dsimp only; exact hR, by rw [mGateQ, if_pos ⟨q_6, q_16⟩, nI_clamp (by omega), nI_clamp (by omega), nI_clamp (by omega)]; dsimp only; rw [e5, show kx = n by omega]; rfl⟩ (Nat.le_refl _) (Nat.le_refl _) dX11_gate_133
            · refine lv_tableIn (tgt := 134) (off := 50) hx hb dX11_gate_84 (by decide) (by decide) (by decide) (by decide) ?_
              refine lv_aload_n hx hb dX11_gate_134 rfl (lv_at hl 0 rfl) ?_
              refine g_1121 C hinX11 hW hR.1.1 (mA_21 hR.1) l70 dX11_gate_135 ?_
              refine lv_iload hx hb dX11_gate_138 (lv_at hl 4 rfl) ?_
              refine a_Iload C hW (j := ((8 * gt) + kk)) (mK_21 hR.1) (mN_21 hR.1) rfl (by omega) (by omega) dX11_gate_140 ?_
              refine top_i (show aI S5 (t 21) ((8 * gt) + kk) = (iF g 1100 0).1 21 ((8 * gt) + kk) from hR.i 21 ((8 * gt) + kk)) ?_
              exact k_iret C hr hlk hW hS hB ⟨hO, by rw [mGateQ, if_pos ⟨q_6, q_16⟩]; dsimp only; exact hR, by rw [mGateQ, if_pos ⟨q_6, q_16⟩, nI_clamp (by omega), nI_clamp (by omega), nI_clamp (by omega)]; dsimp only; rfl⟩ (Nat.le_refl _) (Nat.le_refl _) dX11_gate_141
            · refine lv_tableIn (tgt := 142) (off := 58) hx hb dX11_gate_84 (by decide) (by decide) (by decide) (by decide) ?_
              refine lv_aload_n hx hb dX11_gate_142 rfl (lv_at hl 0 rfl) ?_
              refine g_1122 C hinX11 hW hR.1.1 (mA_22 hR.1) l73 dX11_gate_143 ?_
              refine lv_iload hx hb dX11_gate_146 (lv_at hl 4 rfl) ?_
              refine a_Iload C hW (j := ((8 * gt) + kk)) (mK_22 hR.1) (mN_22 hR.1) rfl (by omega) (by omega) dX11_gate_148 ?_
              refine top_i (show aI S5 (t 22) ((8 * gt) + kk) = (iF g 1100 0).1 22 ((8 * gt) + kk) from hR.i 22 ((8 * gt) + kk)) ?_
              exact k_iret C hr hlk hW hS hB ⟨hO, by rw [mGateQ, if_pos ⟨q_6, q_16⟩]; dsimp only; exact hR, by rw [mGateQ, if_pos ⟨q_6, q_16⟩, nI_clamp (by omega), nI_clamp (by omega), nI_clamp (by omega)]; dsimp only; rfl⟩ (Nat.le_refl _) (Nat.le_refl _) dX11_gate_149
            · refine lv_tableIn (tgt := 150) (off := 66) hx hb dX11_gate_84 (by decide) (by decide) (by decide) (by decide) ?_
              refine lv_aload_n hx hb dX11_gate_150 rfl (lv_at hl 0 rfl) ?_
              refine g_1123 C hinX11 hW hR.1.1 (mA_23 hR.1) l76 dX11_gate_151 ?_
              refine lv_iload hx hb dX11_gate_154 (lv_at hl 4 rfl) ?_
              refine a_Iload C hW (j := ((8 * gt) + kk)) (mK_23 hR.1) (mN_23 hR.1) rfl (by omega) (by omega) dX11_gate_156 ?_
              refine top_i (show aI S5 (t 23) ((8 * gt) + kk) = (iF g 1100 0).1 23 ((8 * gt) + kk) from hR.i 23 ((8 * gt) + kk)) ?_
              exact k_iret C hr hlk hW hS hB ⟨hO, by rw [mGateQ, if_pos ⟨q_6, q_16⟩]; dsimp only; exact hR, by rw [mGateQ, if_pos ⟨q_6, q_16⟩, nI_clamp (by omega), nI_clamp (by omega), nI_clamp (by omega)]; dsimp only; rfl⟩ (Nat.le_refl _) (Nat.le_refl _) dX11_gate_157
            · refine lv_tableIn (tgt := 158) (off := 74) hx hb dX11_gate_84 (by decide) (by decide) (by decide) (by decide) ?_
              refine lv_aload_n hx hb dX11_gate_158 rfl (lv_at hl 0 rfl) ?_
              refine g_1124 C hinX11 hW hR.1.1 (mA_24 hR.1) l79 dX11_gate_159 ?_
              refine lv_iload hx hb dX11_gate_162 (lv_at hl 4 rfl) ?_
              refine a_Zload C hW (j := ((8 * gt) + kk)) (mK_24 hR.1) (mN_24 hR.1) rfl (by omega) (by omega) dX11_gate_164 ?_
              refine top_i (show aI S5 (t 24) ((8 * gt) + kk) = (iF g 1100 0).1 24 ((8 * gt) + kk) from hR.i 24 ((8 * gt) + kk)) ?_
              refine lv_if_eq (tgt := 172) hx hb dX11_gate_165 (by decide) (fun c_165 => ?_) (fun c_165 => ?_)
              · refine lv_iconst (v := 0) hx hb dX11_gate_172 (by decide) ?_
                exact k_iret C hr hlk hW hS hB ⟨hO, by rw [mGateQ, if_pos ⟨q_6, q_16⟩]; dsimp only; exact hR, by rw [mGateQ, if_pos ⟨q_6, q_16⟩, nI_clamp (by omega), nI_clamp (by omega), nI_clamp (by omega)]; dsimp only; exact (if_pos c_165).symm⟩ (Nat.le_refl _) (Nat.le_refl _) dX11_gate_173
              · refine lv_iconst (v := 1) hx hb dX11_gate_168 (by decide) ?_
                refine lv_goto (tgt := 173) hx hb dX11_gate_169 (by decide) ?_
                exact k_iret C hr hlk hW hS hB ⟨hO, by rw [mGateQ, if_pos ⟨q_6, q_16⟩]; dsimp only; exact hR, by rw [mGateQ, if_pos ⟨q_6, q_16⟩, nI_clamp (by omega), nI_clamp (by omega), nI_clamp (by omega)]; dsimp only; exact (if_neg c_165).symm⟩ (Nat.le_refl _) (Nat.le_refl _) dX11_gate_173
            · refine lv_tableOut (tgt := 174) hx hb dX11_gate_84 (Or.inr (by decide)) (by decide) ?_
              refine lv_aload_n hx hb dX11_gate_174 rfl (lv_at hl 0 rfl) ?_
              refine g_1126 C hinX11 hW hR.1.1 (mA_26 hR.1) l85 dX11_gate_175 ?_
              refine lv_iload hx hb dX11_gate_178 (lv_at hl 4 rfl) ?_
              refine a_Iload C hW (j := ((8 * gt) + kk)) (mK_26 hR.1) (mN_26 hR.1) rfl (by omega) (by omega) dX11_gate_180 ?_
              refine top_i (show aI S5 (t 26) ((8 * gt) + kk) = (iF g 1100 0).1 26 ((8 * gt) + kk) from hR.i 26 ((8 * gt) + kk)) ?_
              exact k_iret C hr hlk hW hS hB ⟨hO, by rw [mGateQ, if_pos ⟨q_6, q_16⟩]; dsimp only; exact hR, by rw [mGateQ, if_pos ⟨q_6, q_16⟩, nI_clamp (by omega), nI_clamp (by omega), nI_clamp (by omega)]; dsimp only; rfl⟩ (Nat.le_refl _) (Nat.le_refl _) dX11_gate_181
          · have q_52 : ¬ (n ≤ kx) := fun z => c_52 ((nI_leI (a := n) (b := kx) (by omega) (by omega)).mpr z)
            refine lv_aload_n hx hb dX11_gate_55 rfl (lv_at hl 0 rfl) ?_
            refine lv_iload_n hx hb dX11_gate_56 rfl (lv_at hl 1 rfl) ?_
            refine lv_iload_n hx hb dX11_gate_57 rfl (lv_at hl 2 rfl) ?_
            refine lv_iload hx hb dX11_gate_58 (lv_at hl 6 rfl) ?_
            refine k_callVi (As := [.int (nI gt), .int (nI kk), .int (nI kx)]) (rest := []) C hml (c_X11_isHold (gt := gt) (kk := kk) (h := kx) hR (by omega)) (cwV 3 hts gX11_gate_X11_isHold rfl rfl rfl (by decide +kernel) ⟨by decide, by decide⟩) hW hS hB (hR.1.1).1 (pAt_11 (hR.1.1).2) rfl rfl hl.1 rfl (Nat.le_of_ble_eq_true rfl) dX11_gate_60 ⟨Nat.le_of_ble_eq_true rfl, Nat.le_of_ble_eq_true rfl⟩ (fun r9 S7 H locs hp9 hW hS => ?_)
            obtain ⟨e8, e9⟩ := hp9
            rw [e8] at hW
            subst e9
            refine lv_if_eq (tgt := 73) hx hb dX11_gate_63 (by decide) (fun c_63 => ?_) (fun c_63 => ?_)
            · have q_63 : ¬ (mHold (iF g 1100 0) gt kk kx) := ite0.mp c_63
              refine lv_iload hx hb dX11_gate_73 (lv_at hl 5 rfl) ?_
              refine lv_istore (lv' := [(5, .int x5), (0, .ref a0), (1, .int (nI gt)), (2, .int (nI kk)), (3, .int (nI w)), (4, .int (nI ((8 * gt) + kk))), (6, .int (nI kx))]) hx hb dX11_gate_75 hl (by decide) rfl (fun ls hl => ?_)
              refine lv_iinc (v := nI (kx + 1)) (lv' := [(6, .int (nI (kx + 1))), (5, .int x5), (0, .ref a0), (1, .int (nI gt)), (2, .int (nI kk)), (3, .int (nI w)), (4, .int (nI ((8 * gt) + kk)))]) hx hb dX11_gate_77 hl (k := 6) rfl (nI_add kx 1) (by decide) rfl (fun ls hl => ?_)
              refine lv_goto (tgt := 46) hx hb dX11_gate_80 (by decide) ?_
              exact ih (kx + 1) _ _ _ ls (by omega) (by omega) (by rw [e5, mCntH, if_neg q_63]) hW hS (lv_sub hl [2, 3, 4, 5, 6, 1, 0] rfl)
            · have q_63 : (mHold (iF g 1100 0) gt kk kx) := ite1.mp c_63
              refine lv_iload hx hb dX11_gate_66 (lv_at hl 5 rfl) ?_
              refine lv_iconst (v := 1) hx hb dX11_gate_68 (by decide) ?_
              refine lv_iadd hx hb dX11_gate_69 ?_
              refine lv_goto (tgt := 75) hx hb dX11_gate_70 (by decide) ?_
              refine lv_istore (lv' := [(5, .int (x5 + 1)), (0, .ref a0), (1, .int (nI gt)), (2, .int (nI kk)), (3, .int (nI w)), (4, .int (nI ((8 * gt) + kk))), (6, .int (nI kx))]) hx hb dX11_gate_75 hl (by decide) rfl (fun ls hl => ?_)
              refine lv_iinc (v := nI (kx + 1)) (lv' := [(6, .int (nI (kx + 1))), (5, .int (x5 + 1)), (0, .ref a0), (1, .int (nI gt)), (2, .int (nI kk)), (3, .int (nI w)), (4, .int (nI ((8 * gt) + kk)))]) hx hb dX11_gate_77 hl (k := 6) rfl (nI_add kx 1) (by decide) rfl (fun ls hl => ?_)
              refine lv_goto (tgt := 46) hx hb dX11_gate_80 (by decide) ?_
              exact ih (kx + 1) _ _ _ ls (by omega) (by omega) (by rw [e5, mCntH, if_pos q_63]) hW hS (lv_sub hl [2, 3, 4, 5, 6, 1, 0] rfl)
      exact lp (n - 0 + 1) 0 0 _ _ ls (by omega) (by omega) rfl hW hS (lv_sub hl [3, 4, 5, 6, 2, 1, 0] rfl)
def mMessage (g : MS) (p0 p1 : Int32) : MS × Int32 := if mIsMsg g p0 ∧ (0 ≤ p1 ∧ p1 ≤ 6) then (iF g 1100 0, g.1 32 (8 * p0.toNatClampNeg + p1.toNatClampNeg)) else (iF g 1100 1, 0)
def mClock (g : MS) (p0 : Int32) : MS × Int32 := if (-1) ≤ p0 ∧ p0 ≤ 5 then (iF g 1100 0, mClk g (if p0 < 0 then 6 else p0.toNatClampNeg)) else (iF g 1100 1, 0)
set_option maxRecDepth 100000 in
set_option maxHeartbeats 1000000 in
theorem c_X11_message {l : Launch} {D : va_G} {cy : Nat → ClassId} {B : Nat} {s0 : State} {S : PS} {a0 : Nat} {t : Nat → Nat} {g : MS} {p0 p1 : Int32} (hR : MR S a0 t g) (hm : MsgOk g) : KI l yX11_message wsX11_message ({ frames := 1, cells := 0, slots := 0, locals := 22 }) D cy B s0 [.ref a0, .int p0, .int p1] S (fun r S2 => MO S S2 a0 t ∧ MR S2 a0 t (mMessage g p0 p1).1 ∧ r = (mMessage g p0 p1).2) 0 0 := by
  refine k_body (own := RX11) (cc := cX11_message) (maxL := 3) (ret := (some .int)) rfl (by decide) rfl (Nat.le_of_ble_eq_true rfl) ?_
  intro p e s m below meth c C hml hr hlk hnm hB hW ls hl
  obtain ⟨hx, hb, hts, hown, hK, hEn⟩ := id C
  have hS : va_S (Aw B) s.heap s.heap [] := va_S.rf
  have hinX11 : ∀ w ∈ wsX110, w ∈ wsX11_message := by decide +kernel
  have l100 : Cond.fieldLink RX11 100 "LeaseGatesModel" "told" "[I" ∈ wsX11_message := by decide +kernel
  have hl : lv_has ls 3 [(0, .ref a0), (1, .int p0), (2, .int p1)] := hl
  have hO : MO S S a0 t := MO.rf
  refine lv_aload_n hx hb dX11_message_0 rfl (lv_at hl 0 rfl) ?_
  refine lv_aload_n hx hb dX11_message_1 rfl (lv_at hl 0 rfl) ?_
  refine lv_iload_n hx hb dX11_message_2 rfl (lv_at hl 1 rfl) ?_
  refine k_callVi (As := [.int p0]) (rest := [.ref a0]) C hml (c_X11_isMessage hR hm) (cwV 1 hts gX11_message_X11_isMessage rfl rfl rfl (by decide +kernel) ⟨by decide, by decide⟩) hW hS hB (hR.1.1).1 (pAt_11 (hR.1.1).2) rfl rfl hl.1 rfl (Nat.le_of_ble_eq_true rfl) dX11_message_3 ⟨Nat.le_of_ble_eq_true rfl, Nat.le_of_ble_eq_true rfl⟩ (fun r9 S1 H locs hp9 hW hS => ?_)
  obtain ⟨e8, e9⟩ := hp9
  rw [e8] at hW
  subst e9
  refine lv_if_eq (tgt := 23) hx hb dX11_message_6 (by decide) (fun c_6 => ?_) (fun c_6 => ?_)
  · have q_6 : ¬ (mIsMsg g p0) := ite0.mp c_6
    refine lv_iconst (v := 1) hx hb dX11_message_23 (by decide) ?_
    refine k_callVi (As := [.int 1]) (rest := []) C hml (c_X11_refused hR) (cwV 1 hts gX11_message_X11_refused rfl rfl rfl (by decide +kernel) ⟨by decide, by decide⟩) hW hS hB (hR.1.1).1 (pAt_11 (hR.1.1).2) rfl rfl hl.1 rfl (Nat.le_of_ble_eq_true rfl) dX11_message_24 ⟨Nat.le_of_ble_eq_true rfl, Nat.le_of_ble_eq_true rfl⟩ (fun r9 S2 H locs hp9 hW hS => ?_)
    obtain ⟨hO9, hR, e9⟩ := hp9
    replace hO := hO.tr hO9
    obtain rfl : r9 = 1 := e9.trans (by decide)
    clear hO9 e9
    refine lv_if_eq (tgt := 32) hx hb dX11_message_27 (by decide) (fun c9 => absurd c9 (by decide)) (fun c9 => ?_)
    refine lv_iconst (v := 0) hx hb dX11_message_30 (by decide) ?_
    exact k_iret C hr hlk hW hS hB ⟨hO, by rw [mMessage, if_neg (fun z => by first | exact q_6 z.1 | exact q_16 z.2)]; dsimp only; exact hR, by rw [mMessage, if_neg (fun z => by first | exact q_6 z.1 | exact q_16 z.2)]⟩ (Nat.le_refl _) (Nat.le_refl _) dX11_message_31
  · have q_6 : (mIsMsg g p0) := ite1.mp c_6
    refine lv_iload_n hx hb dX11_message_9 rfl (lv_at hl 2 rfl) ?_
    refine lv_iconst (v := 0) hx hb dX11_message_10 (by decide) ?_
    refine lv_bipush (v := 6) hx hb dX11_message_11 (by decide) ?_
    refine k_callSi (As := [.int p1, .int 0, .int 6]) (rest := [.ref a0]) C hml (c_X11_isIn) (va_cwS 3 hts gX11_message_X11_isIn rfl rfl rfl (by decide +kernel) ⟨by decide, by decide⟩) hW hS hB rfl hl.1 rfl (Nat.le_of_ble_eq_true rfl) dX11_message_13 ⟨Nat.le_of_ble_eq_true rfl, Nat.le_of_ble_eq_true rfl⟩ (fun r9 S3 H locs hp9 hW hS => ?_)
    obtain ⟨e8, e9⟩ := hp9
    rw [e8] at hW
    subst e9
    refine lv_if_eq (tgt := 23) hx hb dX11_message_16 (by decide) (fun c_16 => ?_) (fun c_16 => ?_)
    · have q_16 : ¬ (0 ≤ p1 ∧ p1 ≤ 6) := ite0.mp c_16
      refine lv_iconst (v := 1) hx hb dX11_message_23 (by decide) ?_
      refine k_callVi (As := [.int 1]) (rest := []) C hml (c_X11_refused hR) (cwV 1 hts gX11_message_X11_refused rfl rfl rfl (by decide +kernel) ⟨by decide, by decide⟩) hW hS hB (hR.1.1).1 (pAt_11 (hR.1.1).2) rfl rfl hl.1 rfl (Nat.le_of_ble_eq_true rfl) dX11_message_24 ⟨Nat.le_of_ble_eq_true rfl, Nat.le_of_ble_eq_true rfl⟩ (fun r9 S4 H locs hp9 hW hS => ?_)
      obtain ⟨hO9, hR, e9⟩ := hp9
      replace hO := hO.tr hO9
      obtain rfl : r9 = 1 := e9.trans (by decide)
      clear hO9 e9
      refine lv_if_eq (tgt := 32) hx hb dX11_message_27 (by decide) (fun c9 => absurd c9 (by decide)) (fun c9 => ?_)
      refine lv_iconst (v := 0) hx hb dX11_message_30 (by decide) ?_
      exact k_iret C hr hlk hW hS hB ⟨hO, by rw [mMessage, if_neg (fun z => by first | exact q_6 z.1 | exact q_16 z.2)]; dsimp only; exact hR, by rw [mMessage, if_neg (fun z => by first | exact q_6 z.1 | exact q_16 z.2)]⟩ (Nat.le_refl _) (Nat.le_refl _) dX11_message_31
    · have q_16 : (0 ≤ p1 ∧ p1 ≤ 6) := ite1.mp c_16
      refine lv_iconst (v := 0) hx hb dX11_message_19 (by decide) ?_
      refine lv_goto (tgt := 24) hx hb dX11_message_20 (by decide) ?_
      refine k_callVi (As := [.int 0]) (rest := []) C hml (c_X11_refused hR) (cwV 1 hts gX11_message_X11_refused rfl rfl rfl (by decide +kernel) ⟨by decide, by decide⟩) hW hS hB (hR.1.1).1 (pAt_11 (hR.1.1).2) rfl rfl hl.1 rfl (Nat.le_of_ble_eq_true rfl) dX11_message_24 ⟨Nat.le_of_ble_eq_true rfl, Nat.le_of_ble_eq_true rfl⟩ (fun r9 S5 H locs hp9 hW hS => ?_)
      obtain ⟨hO9, hR, e9⟩ := hp9
      replace hO := hO.tr hO9
      obtain rfl : r9 = 0 := e9.trans (by decide)
      clear hO9 e9
      refine lv_if_eq (tgt := 32) hx hb dX11_message_27 (by decide) (fun c9 => ?_) (fun c9 => absurd c9 (by decide))
      obtain ⟨q, hq, rfl⟩ := mIsMsg_q hm q_6
      have hm2 := hm.2
      obtain ⟨w, hw, rfl⟩ := rngN 6 (by decide) q_16
      refine lv_aload_n hx hb dX11_message_32 rfl (lv_at hl 0 rfl) ?_
      refine g_1132 C hinX11 hW hR.1.1 (mA_32 hR.1) l100 dX11_message_33 ?_
      refine lv_bipush (v := 8) hx hb dX11_message_36 (by decide) ?_
      refine lv_iload_n hx hb dX11_message_38 rfl (lv_at hl 1 rfl) ?_
      refine lv_imul hx hb dX11_message_39 ?_
      refine top_i (show 8 * (nI q) = nI (8 * q) from pk_mul 8 q) ?_
      refine lv_iload_n hx hb dX11_message_40 rfl (lv_at hl 2 rfl) ?_
      refine lv_iadd hx hb dX11_message_41 ?_
      refine top_i (show (nI (8 * q)) + (nI w) = nI ((8 * q) + w) from nI_add (8 * q) w) ?_
      refine a_Iload C hW (j := ((8 * q) + w)) (mK_32 hR.1) (mN_32 hR.1) rfl (by omega) (by omega) dX11_message_42 ?_
      refine top_i (show aI S5 (t 32) ((8 * q) + w) = (iF g 1100 0).1 32 ((8 * q) + w) from hR.i 32 ((8 * q) + w)) ?_
      exact k_iret C hr hlk hW hS hB ⟨hO, by rw [mMessage, if_pos ⟨q_6, q_16⟩]; dsimp only; exact hR, by rw [mMessage, if_pos ⟨q_6, q_16⟩, nI_clamp (by omega), nI_clamp (by omega)]; rfl⟩ (Nat.le_refl _) (Nat.le_refl _) dX11_message_43
set_option maxRecDepth 100000 in
set_option maxHeartbeats 1000000 in
theorem c_X11_sent {l : Launch} {D : va_G} {cy : Nat → ClassId} {B : Nat} {s0 : State} {S : PS} {a0 : Nat} {t : Nat → Nat} {g : MS} (hR : MR S a0 t g) : KI l yX11_sent wsX11_sent ({ frames := 0, cells := 0, slots := 0, locals := 0 }) D cy B s0 [.ref a0] S (fun r S2 => MO S S2 a0 t ∧ MR S2 a0 t (iF g 1100 0) ∧ r = g.2.2 1131) 0 0 := by
  refine k_body (own := RX11) (cc := cX11_sent) (maxL := 1) (ret := (some .int)) rfl (by decide) rfl (Nat.le_of_ble_eq_true rfl) ?_
  intro p e s m below meth c C hml hr hlk hnm hB hW ls hl
  obtain ⟨hx, hb, hts, hown, hK, hEn⟩ := id C
  have hS : va_S (Aw B) s.heap s.heap [] := va_S.rf
  have hinX11 : ∀ w ∈ wsX110, w ∈ wsX11_sent := by decide +kernel
  have l106 : Cond.fieldLink RX11 106 "LeaseGatesModel" "refusal" "I" ∈ wsX11_sent := by decide +kernel
  have l166 : Cond.fieldLink RX11 166 "LeaseGatesModel" "messages" "I" ∈ wsX11_sent := by decide +kernel
  have hl : lv_has ls 1 [(0, .ref a0)] := hl
  have hO : MO S S a0 t := MO.rf
  refine lv_aload_n hx hb dX11_sent_0 rfl (lv_at hl 0 rfl) ?_
  refine lv_iconst (v := 0) hx hb dX11_sent_1 (by decide) ?_
  refine p_1100 C hinX11 hW hS hR.1.1 l106 dX11_sent_2 (fun S1 H locs e1 hW hS => ?_)
  have hR : MR S1 a0 t (iF g 1100 0) := by rw [e1]; exact hR.wF
  replace hO : MO S S1 a0 t := by rw [e1]; exact hO.wF
  clear e1
  refine lv_aload_n hx hb dX11_sent_5 rfl (lv_at hl 0 rfl) ?_
  refine g_1131 C hinX11 hW hR.1.1 l166 dX11_sent_6 ?_
  refine top_i (show fI S1 1131 a0 = (iF g 1100 0).2.2 1131 from hR.f 1131) ?_
  exact k_iret C hr hlk hW hS hB ⟨hO, hR, rfl⟩ (Nat.le_refl _) (Nat.le_refl _) dX11_sent_9
set_option maxRecDepth 100000 in
set_option maxHeartbeats 1000000 in
theorem c_X11_clock {l : Launch} {D : va_G} {cy : Nat → ClassId} {B : Nat} {s0 : State} {S : PS} {a0 : Nat} {t : Nat → Nat} {g : MS} {p0 : Int32} (hR : MR S a0 t g) : KI l yX11_clock wsX11_clock ({ frames := 1, cells := 0, slots := 0, locals := 22 }) D cy B s0 [.ref a0, .int p0] S (fun r S2 => MO S S2 a0 t ∧ MR S2 a0 t (mClock g p0).1 ∧ r = (mClock g p0).2) 0 0 := by
  refine k_body (own := RX11) (cc := cX11_clock) (maxL := 2) (ret := (some .int)) rfl (by decide) rfl (Nat.le_of_ble_eq_true rfl) ?_
  intro p e s m below meth c C hml hr hlk hnm hB hW ls hl
  obtain ⟨hx, hb, hts, hown, hK, hEn⟩ := id C
  have hS : va_S (Aw B) s.heap s.heap [] := va_S.rf
  have hl : lv_has ls 2 [(0, .ref a0), (1, .int p0)] := hl
  have hO : MO S S a0 t := MO.rf
  refine lv_aload_n hx hb dX11_clock_0 rfl (lv_at hl 0 rfl) ?_
  refine lv_iload_n hx hb dX11_clock_1 rfl (lv_at hl 1 rfl) ?_
  refine lv_iconst (v := (-1)) hx hb dX11_clock_2 (by decide) ?_
  refine lv_iconst (v := 5) hx hb dX11_clock_3 (by decide) ?_
  refine k_callSi (As := [.int p0, .int (-1), .int 5]) (rest := [.ref a0]) C hml (c_X11_isIn) (va_cwS 3 hts gX11_clock_X11_isIn rfl rfl rfl (by decide +kernel) ⟨by decide, by decide⟩) hW hS hB rfl hl.1 rfl (Nat.le_of_ble_eq_true rfl) dX11_clock_4 ⟨Nat.le_of_ble_eq_true rfl, Nat.le_of_ble_eq_true rfl⟩ (fun r9 S1 H locs hp9 hW hS => ?_)
  obtain ⟨e8, e9⟩ := hp9
  rw [e8] at hW
  subst e9
  refine lv_if_eq (tgt := 14) hx hb dX11_clock_7 (by decide) (fun c_7 => ?_) (fun c_7 => ?_)
  · have q_7 : ¬ ((-1) ≤ p0 ∧ p0 ≤ 5) := ite0.mp c_7
    refine lv_iconst (v := 1) hx hb dX11_clock_14 (by decide) ?_
    refine k_callVi (As := [.int 1]) (rest := []) C hml (c_X11_refused hR) (cwV 1 hts gX11_clock_X11_refused rfl rfl rfl (by decide +kernel) ⟨by decide, by decide⟩) hW hS hB (hR.1.1).1 (pAt_11 (hR.1.1).2) rfl rfl hl.1 rfl (Nat.le_of_ble_eq_true rfl) dX11_clock_15 ⟨Nat.le_of_ble_eq_true rfl, Nat.le_of_ble_eq_true rfl⟩ (fun r9 S2 H locs hp9 hW hS => ?_)
    obtain ⟨hO9, hR, e9⟩ := hp9
    replace hO := hO.tr hO9
    obtain rfl : r9 = 1 := e9.trans (by decide)
    clear hO9 e9
    refine lv_if_eq (tgt := 25) hx hb dX11_clock_18 (by decide) (fun c9 => absurd c9 (by decide)) (fun c9 => ?_)
    refine lv_iconst (v := 0) hx hb dX11_clock_21 (by decide) ?_
    refine lv_goto (tgt := 39) hx hb dX11_clock_22 (by decide) ?_
    exact k_iret C hr hlk hW hS hB ⟨hO, by rw [mClock, if_neg q_7]; dsimp only; exact hR, by rw [mClock, if_neg q_7]⟩ (Nat.le_refl _) (Nat.le_refl _) dX11_clock_39
  · have q_7 : ((-1) ≤ p0 ∧ p0 ≤ 5) := ite1.mp c_7
    refine lv_iconst (v := 0) hx hb dX11_clock_10 (by decide) ?_
    refine lv_goto (tgt := 15) hx hb dX11_clock_11 (by decide) ?_
    refine k_callVi (As := [.int 0]) (rest := []) C hml (c_X11_refused hR) (cwV 1 hts gX11_clock_X11_refused rfl rfl rfl (by decide +kernel) ⟨by decide, by decide⟩) hW hS hB (hR.1.1).1 (pAt_11 (hR.1.1).2) rfl rfl hl.1 rfl (Nat.le_of_ble_eq_true rfl) dX11_clock_15 ⟨Nat.le_of_ble_eq_true rfl, Nat.le_of_ble_eq_true rfl⟩ (fun r9 S3 H locs hp9 hW hS => ?_)
    obtain ⟨hO9, hR, e9⟩ := hp9
    replace hO := hO.tr hO9
    obtain rfl : r9 = 0 := e9.trans (by decide)
    clear hO9 e9
    refine lv_if_eq (tgt := 25) hx hb dX11_clock_18 (by decide) (fun c9 => ?_) (fun c9 => absurd c9 (by decide))
    refine lv_aload_n hx hb dX11_clock_25 rfl (lv_at hl 0 rfl) ?_
    refine lv_iload_n hx hb dX11_clock_26 rfl (lv_at hl 1 rfl) ?_
    refine lv_if_ge (tgt := 35) hx hb dX11_clock_27 (by decide) (fun c_27 => ?_) (fun c_27 => ?_)
    · obtain ⟨k, hk, rfl⟩ := rngN 5 (by decide) ⟨c_27, q_7.2⟩
      refine lv_iload_n hx hb dX11_clock_35 rfl (lv_at hl 1 rfl) ?_
      refine k_callVi (As := [.int (nI k)]) (rest := []) C hml (c_X11_clockOf (k := k) hR (by omega)) (cwV 1 hts gX11_clock_X11_clockOf rfl rfl rfl (by decide +kernel) ⟨by decide, by decide⟩) hW hS hB (hR.1.1).1 (pAt_11 (hR.1.1).2) rfl rfl hl.1 rfl (Nat.le_of_ble_eq_true rfl) dX11_clock_36 ⟨Nat.le_of_ble_eq_true rfl, Nat.le_of_ble_eq_true rfl⟩ (fun r9 S4 H locs hp9 hW hS => ?_)
      obtain ⟨e8, e9⟩ := hp9
      rw [e8] at hW
      subst e9
      exact k_iret C hr hlk hW hS hB ⟨hO, by rw [mClock, if_pos q_7]; dsimp only; exact hR, by rw [mClock, if_pos q_7]; dsimp only; rw [if_neg (Int32.not_lt.mpr c_27), nI_clamp (by omega)]; rfl⟩ (Nat.le_refl _) (Nat.le_refl _) dX11_clock_39
    · refine lv_bipush (v := 6) hx hb dX11_clock_30 (by decide) ?_
      refine lv_goto (tgt := 36) hx hb dX11_clock_32 (by decide) ?_
      refine k_callVi (As := [.int 6]) (rest := []) C hml (c_X11_clockOf (k := 6) hR (by omega)) (cwV 1 hts gX11_clock_X11_clockOf rfl rfl rfl (by decide +kernel) ⟨by decide, by decide⟩) hW hS hB (hR.1.1).1 (pAt_11 (hR.1.1).2) rfl rfl hl.1 rfl (Nat.le_of_ble_eq_true rfl) dX11_clock_36 ⟨Nat.le_of_ble_eq_true rfl, Nat.le_of_ble_eq_true rfl⟩ (fun r9 S5 H locs hp9 hW hS => ?_)
      obtain ⟨e8, e9⟩ := hp9
      rw [e8] at hW
      subst e9
      exact k_iret C hr hlk hW hS hB ⟨hO, by rw [mClock, if_pos q_7]; dsimp only; exact hR, by rw [mClock, if_pos q_7]; dsimp only; rw [if_pos (Int32.not_le.mp c_27)]; rfl⟩ (Nat.le_refl _) (Nat.le_refl _) dX11_clock_39
