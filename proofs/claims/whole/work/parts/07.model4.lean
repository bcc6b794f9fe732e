theorem i32_add {a b : Int32} (h1 : -2147483648 ≤ a.toInt + b.toInt) (h2 : a.toInt + b.toInt < 2147483648) : (a + b).toInt = a.toInt + b.toInt := by
  rw [Int32.toInt_add]
  exact Int.bmod_eq_of_le (by omega) (by omega)
def mSumW (g : MS) (kk : Nat) (now : Int32) : Nat → Int32
  | 0 => 0
  | j + 1 => if ¬ g.1 17 (8 * j + kk) = 0 ∧ now - g.1 18 (8 * j + kk) < 1000 then mSumW g kk now j + g.1 19 (8 * j + kk) else mSumW g kk now j
def WOk (g : MS) : Prop := ∀ i, i < 48 → 1 ≤ (g.1 19 i).toInt ∧ (g.1 19 i).toInt ≤ 100
theorem mSumW_b {g : MS} (hw : WOk g) {kk : Nat} (hk : kk < 8) (now : Int32) (m : Nat) (hm : m ≤ 6) : 0 ≤ (mSumW g kk now m).toInt ∧ (mSumW g kk now m).toInt ≤ 100 * m := by
  induction m with
  | zero => exact ⟨show (0 : Int) ≤ (0 : Int32).toInt by decide, show (0 : Int32).toInt ≤ 100 * ((0 : Nat) : Int) by decide⟩
  | succ j ih =>
    have h1 := ih (by omega)
    have h2 := hw (8 * j + kk) (by omega)
    rw [mSumW]
    split
    · rw [i32_add (by omega) (by omega)]; omega
    · omega
theorem mSumW_p {g : MS} (hw : WOk g) {kk : Nat} (hk : kk < 8) (now : Int32) {gt : Nat} (ha : ¬ g.1 17 (8 * gt + kk) = 0) (hb : now - g.1 18 (8 * gt + kk) < 1000) (m : Nat) (hm : m ≤ 6) (hg : gt < m) : 1 ≤ (mSumW g kk now m).toInt := by
  induction m with
  | zero => omega
  | succ j ih =>
    have h1 := mSumW_b hw hk now j (by omega)
    have h2 := hw (8 * j + kk) (by omega)
    rw [mSumW]
    by_cases e : gt = j
    · subst e
      rw [if_pos ⟨ha, hb⟩, i32_add (by omega) (by omega)]; omega
    · have h3 := ih (by omega) (by omega)
      split
      · rw [i32_add (by omega) (by omega)]; omega
      · exact h3
def mAn1 (g : MS) (gt kk : Nat) : MS := iI (iI g 17 (8 * gt + kk) 1) 18 (8 * gt + kk) (mClk g 6)
def mFree (g : MS) (kk : Nat) : Int32 := (g.2.1 5 kk / 1000).toInt32
def mGets (g : MS) (gt kk : Nat) (tok : Int32) : Int32 :=
  if tok ≤ mFree g kk then tok
  else if mFree g kk * (mAn1 g gt kk).1 19 (8 * gt + kk) / mSumW (mAn1 g gt kk) kk (mClk g 6) 6 < tok then mFree g kk * (mAn1 g gt kk).1 19 (8 * gt + kk) / mSumW (mAn1 g gt kk) kk (mClk g 6) 6 else tok
def mAn2 (g : MS) (gt kk : Nat) (gets count : Int32) : MS := iI (iI (iI (iI (iL (mAn1 g gt kk) 5 kk (g.2.1 5 kk - 1000 * gets.toInt64)) 13 (8 * gt + kk) count) 15 (8 * gt + kk) gets) 16 (8 * gt + kk) (g.2.2 1111)) 14 (8 * gt + kk) (-1)
def mAn3 (g : MS) (n at_ kk : Nat) (gets now : Int32) : MS := iF (iI (iI (iI (iI g 14 at_ (nI n)) 8 n (nI kk)) 9 n gets) 10 n (now + g.2.2 1111)) 1107 (nI (n + 1))
def mAnswerX (g : MS) (n gt kk : Nat) (gets count : Int32) : MS := if 0 < gets then mAn3 (mAn2 g gt kk gets count) n (8 * gt + kk) kk gets (mClk g 6) else mAn2 g gt kk gets count
def mAnswer (g : MS) (n gt kk : Nat) (tok count : Int32) : MS := mAnswerX g n gt kk (mGets g gt kk tok) count
theorem mAn1_w {g : MS} (hw : WOk g) (gt kk : Nat) : WOk (mAn1 g gt kk) := hw
theorem mAn1_ne {g : MS} (hw : WOk g) {gt kk : Nat} (hg : gt < 6) (hk : kk < 8) : ¬ mSumW (mAn1 g gt kk) kk (mClk g 6) 6 = 0 := by
  intro z
  have h := mSumW_p (mAn1_w hw gt kk) hk (mClk g 6) (gt := gt) (by simp [mAn1, iI, va_up]) (by simp [mAn1, iI, va_up]) 6 (by omega) hg
  rw [z] at h
  exact absurd h (by decide)
theorem MsgOk_of {g g2 : MS} (e : g2.2.2 1131 = g.2.2 1131) (h : MsgOk g) : MsgOk g2 := by
  have e2 : mqN g2 = mqN g := by unfold mqN; rw [e]
  exact ⟨by rw [e2, e]; exact h.1, by rw [e2]; exact h.2⟩
theorem mAnswer_m (g : MS) (n gt kk : Nat) (tok count : Int32) : (mAnswer g n gt kk tok count).2.2 1131 = g.2.2 1131 := by
  unfold mAnswer mAnswerX
  split
  · show va_up _ 1107 (nI (n + 1)) 1131 = _
    rw [va_up_ne _ _ (by decide)]
    rfl
  · rfl
set_option maxRecDepth 100000 in
set_option maxHeartbeats 1000000 in
theorem c_X11_answer {l : Launch} {D : va_G} {cy : Nat → ClassId} {B : Nat} {s0 : State} {S : PS} {a0 : Nat} {t : Nat → Nat} {g : MS} {n gt kk : Nat} {tok count : Int32} (hR : MR S a0 t g) (hn : g.2.2 1107 = nI n) (hnlt : n < 300) (hg : gt < 6) (hkk : kk < 8) (hw9 : WOk g) : KV l yX11_answer wsX11_answer ({ frames := 1, cells := 0, slots := 0, locals := 21 }) D cy B s0 [.ref a0, .int (nI gt), .int (nI kk), .int tok, .int count] S (fun S2 => MO S S2 a0 t ∧ MR S2 a0 t (mAnswer g n gt kk tok count)) 0 0 := by
  refine k_body (own := RX11) (cc := cX11_answer) (maxL := 12) (ret := none) rfl (by decide) rfl (Nat.le_of_ble_eq_true rfl) ?_
  intro p e s m below meth c C hml hr hlk hnm hB hW ls hl
  obtain ⟨hx, hb, hts, hown, hK, hEn⟩ := id C
  have hS : va_S (Aw B) s.heap s.heap [] := va_S.rf
  have hinX11 : ∀ w ∈ wsX110, w ∈ wsX11_answer := by decide +kernel
  have l23 : Cond.fieldLink RX11 23 "LeaseGatesModel" "levels" "[J" ∈ wsX11_answer := by decide +kernel
  have l29 : Cond.fieldLink RX11 29 "LeaseGatesModel" "loanKey" "[I" ∈ wsX11_answer := by decide +kernel
  have l32 : Cond.fieldLink RX11 32 "LeaseGatesModel" "loanTokens" "[I" ∈ wsX11_answer := by decide +kernel
  have l35 : Cond.fieldLink RX11 35 "LeaseGatesModel" "loanEnd" "[I" ∈ wsX11_answer := by decide +kernel
  have l38 : Cond.fieldLink RX11 38 "LeaseGatesModel" "length" "I" ∈ wsX11_answer := by decide +kernel
  have l45 : Cond.fieldLink RX11 45 "LeaseGatesModel" "answered" "[I" ∈ wsX11_answer := by decide +kernel
  have l48 : Cond.fieldLink RX11 48 "LeaseGatesModel" "lastNumber" "[I" ∈ wsX11_answer := by decide +kernel
  have l51 : Cond.fieldLink RX11 51 "LeaseGatesModel" "lastTokens" "[I" ∈ wsX11_answer := by decide +kernel
  have l54 : Cond.fieldLink RX11 54 "LeaseGatesModel" "lastLength" "[I" ∈ wsX11_answer := by decide +kernel
  have l57 : Cond.fieldLink RX11 57 "LeaseGatesModel" "hasAsked" "[Z" ∈ wsX11_answer := by decide +kernel
  have l61 : Cond.fieldLink RX11 61 "LeaseGatesModel" "askedAt" "[I" ∈ wsX11_answer := by decide +kernel
  have l64 : Cond.fieldLink RX11 64 "LeaseGatesModel" "weights" "[I" ∈ wsX11_answer := by decide +kernel
  have l109 : Cond.constantLong RX11 109 (1000) ∈ wsX11_answer := by decide +kernel
  have l111 : Cond.fieldLink RX11 111 "LeaseGatesModel" "loans" "I" ∈ wsX11_answer := by decide +kernel
  have hl : lv_has ls 12 [(0, .ref a0), (1, .int (nI gt)), (2, .int (nI kk)), (3, .int tok), (4, .int count)] := hl
  have hO : MO S S a0 t := MO.rf
  refine lv_bipush (v := 8) hx hb dX11_answer_0 (by decide) ?_
  refine lv_iload_n hx hb dX11_answer_2 rfl (lv_at hl 1 rfl) ?_
  refine lv_imul hx hb dX11_answer_3 ?_
  refine top_i (show 8 * (nI gt) = nI (8 * gt) from pk_mul 8 gt) ?_
  refine lv_iload_n hx hb dX11_answer_4 rfl (lv_at hl 2 rfl) ?_
  refine lv_iadd hx hb dX11_answer_5 ?_
  refine top_i (show (nI (8 * gt)) + (nI kk) = nI ((8 * gt) + kk) from nI_add (8 * gt) kk) ?_
  refine lv_istore (lv' := [(5, .int (nI ((8 * gt) + kk))), (0, .ref a0), (1, .int (nI gt)), (2, .int (nI kk)), (3, .int tok), (4, .int count)]) hx hb dX11_answer_6 hl (by decide) rfl (fun ls hl => ?_)
  refine lv_aload_n hx hb dX11_answer_8 rfl (lv_at hl 1 rfl) ?_
  refine lv_bipush (v := 6) hx hb dX11_answer_9 (by decide) ?_
  refine k_callVi (As := [.int 6]) (rest := []) C hml (c_X11_clockOf (k := 6) hR (by omega)) (cwV 1 hts gX11_answer_X11_clockOf rfl rfl rfl (by decide +kernel) ⟨by decide, by decide⟩) hW hS hB (hR.1.1).1 (pAt_11 (hR.1.1).2) rfl rfl hl.1 rfl (Nat.le_of_ble_eq_true rfl) dX11_answer_11 ⟨Nat.le_of_ble_eq_true rfl, Nat.le_of_ble_eq_true rfl⟩ (fun r9 S1 H locs hp9 hW hS => ?_)
  obtain ⟨e8, e9⟩ := hp9
  rw [e8] at hW
  subst e9
  refine lv_istore (lv' := [(6, .int (mClk g 6)), (5, .int (nI ((8 * gt) + kk))), (0, .ref a0), (1, .int (nI gt)), (2, .int (nI kk)), (3, .int tok), (4, .int count)]) hx hb dX11_answer_14 hl (by decide) rfl (fun ls hl => ?_)
  refine lv_aload_n hx hb dX11_answer_16 rfl (lv_at hl 2 rfl) ?_
  refine g_1117 C hinX11 hW hR.1.1 (mA_17 hR.1) l57 dX11_answer_17 ?_
  refine lv_iload hx hb dX11_answer_20 (lv_at hl 1 rfl) ?_
  refine lv_iconst (v := 1) hx hb dX11_answer_22 (by decide) ?_
  refine a_Zstore C hW hS (j := ((8 * gt) + kk)) (mK_17 hR.1) (mN_17 hR.1) rfl (by omega) (by omega) (by decide) dX11_answer_23 (fun S2 H locs e1 hW hS => ?_)
  have hR : MR S2 a0 t (iI g 17 ((8 * gt) + kk) 1) := by rw [e1]; exact hR.wI
  replace hO : MO S S2 a0 t := by rw [e1]; exact hO.wI
  clear e1
  refine lv_aload_n hx hb dX11_answer_24 rfl (lv_at hl 2 rfl) ?_
  refine g_1118 C hinX11 hW hR.1.1 (mA_18 hR.1) l61 dX11_answer_25 ?_
  refine lv_iload hx hb dX11_answer_28 (lv_at hl 1 rfl) ?_
  refine lv_iload hx hb dX11_answer_30 (lv_at hl 0 rfl) ?_
  refine a_Istore C hW hS (j := ((8 * gt) + kk)) (mK_18 hR.1) (mN_18 hR.1) rfl (by omega) (by omega) dX11_answer_32 (fun S3 H locs e1 hW hS => ?_)
  have hR : MR S3 a0 t (iI (iI g 17 ((8 * gt) + kk) 1) 18 ((8 * gt) + kk) (mClk g 6)) := by rw [e1]; exact hR.wI
  replace hO : MO S S3 a0 t := by rw [e1]; exact hO.wI
  clear e1
  refine lv_aload_n hx hb dX11_answer_33 rfl (lv_at hl 2 rfl) ?_
  refine g_1105 C hinX11 hW hR.1.1 (mA_5 hR.1) l23 dX11_answer_34 ?_
  refine lv_iload_n hx hb dX11_answer_37 rfl (lv_at hl 4 rfl) ?_
  refine a_Jload C hW (j := kk) (mK_5 hR.1) (mN_5 hR.1) rfl (by omega) (by omega) dX11_answer_38 ?_
  refine top_l (show aJ S3 (t 5) kk = (iI (iI g 17 ((8 * gt) + kk) 1) 18 ((8 * gt) + kk) (mClk g 6)).2.1 5 kk from hR.l 5 kk) ?_
  refine lv_ldc2 hx hb hown (hts _ l109) dX11_answer_39 ?_
  refine lv_ldiv hx hb dX11_answer_42 (by decide) ?_
  refine lv_l2i (v := (((iI (iI g 17 ((8 * gt) + kk) 1) 18 ((8 * gt) + kk) (mClk g 6)).2.1 5 kk) / 1000).toInt32) hx hb dX11_answer_43 rfl ?_
  refine top_i (show (((iI (iI g 17 ((8 * gt) + kk) 1) 18 ((8 * gt) + kk) (mClk g 6)).2.1 5 kk) / 1000).toInt32 = mFree g kk from rfl) ?_
  refine lv_istore (lv' := [(7, .int (mFree g kk)), (6, .int (mClk g 6)), (5, .int (nI ((8 * gt) + kk))), (0, .ref a0), (1, .int (nI gt)), (2, .int (nI kk)), (3, .int tok), (4, .int count)]) hx hb dX11_answer_44 hl (by decide) rfl (fun ls hl => ?_)
  have hR : MR S3 a0 t (mAn1 g gt kk) := hR
  refine lv_iload_n hx hb dX11_answer_46 rfl (lv_at hl 6 rfl) ?_
  refine lv_istore (lv' := [(8, .int tok), (7, .int (mFree g kk)), (6, .int (mClk g 6)), (5, .int (nI ((8 * gt) + kk))), (0, .ref a0), (1, .int (nI gt)), (2, .int (nI kk)), (3, .int tok), (4, .int count)]) hx hb dX11_answer_47 hl (by decide) rfl (fun ls hl => ?_)
  refine lv_iload hx hb dX11_answer_49 (lv_at hl 1 rfl) ?_
  refine lv_iload_n hx hb dX11_answer_51 rfl (lv_at hl 7 rfl) ?_
  refine lv_icmp_ge (tgt := 155) hx hb dX11_answer_52 (by decide) (fun c_52 => ?_) (fun c_52 => ?_)
  · refine lv_aload_n hx hb dX11_answer_155 rfl (lv_at hl 4 rfl) ?_
    refine g_1105 C hinX11 hW hR.1.1 (mA_5 hR.1) l23 dX11_answer_156 ?_
    refine lv_iload_n hx hb dX11_answer_159 rfl (lv_at hl 6 rfl) ?_
    refine lv_aload_n hx hb dX11_answer_160 rfl (lv_at hl 4 rfl) ?_
    refine g_1105 C hinX11 hW hR.1.1 (mA_5 hR.1) l23 dX11_answer_161 ?_
    refine lv_iload_n hx hb dX11_answer_164 rfl (lv_at hl 6 rfl) ?_
    refine a_Jload C hW (j := kk) (mK_5 hR.1) (mN_5 hR.1) rfl (by omega) (by omega) dX11_answer_165 ?_
    refine top_l (show aJ S3 (t 5) kk = (mAn1 g gt kk).2.1 5 kk from hR.l 5 kk) ?_
    refine lv_ldc2 hx hb hown (hts _ l109) dX11_answer_166 ?_
    refine lv_iload hx hb dX11_answer_169 (lv_at hl 0 rfl) ?_
    refine lv_i2l (v := tok.toInt64) hx hb dX11_answer_171 rfl ?_
    refine lv_lmul hx hb dX11_answer_172 ?_
    refine lv_lsub hx hb dX11_answer_173 ?_
    refine a_Jstore C hW hS (j := kk) (mK_5 hR.1) (mN_5 hR.1) rfl (by omega) (by omega) dX11_answer_174 (fun S4 H locs e1 hW hS => ?_)
    have hR : MR S4 a0 t (iL (mAn1 g gt kk) 5 kk (((mAn1 g gt kk).2.1 5 kk) - (1000 * tok.toInt64))) := by rw [e1]; exact hR.wJ
    replace hO : MO S S4 a0 t := by rw [e1]; exact hO.wJ
    clear e1
    refine lv_aload_n hx hb dX11_answer_175 rfl (lv_at hl 4 rfl) ?_
    refine g_1113 C hinX11 hW hR.1.1 (mA_13 hR.1) l45 dX11_answer_176 ?_
    refine lv_iload hx hb dX11_answer_179 (lv_at hl 3 rfl) ?_
    refine lv_iload hx hb dX11_answer_181 (lv_at hl 8 rfl) ?_
    refine a_Istore C hW hS (j := ((8 * gt) + kk)) (mK_13 hR.1) (mN_13 hR.1) rfl (by omega) (by omega) dX11_answer_183 (fun S5 H locs e1 hW hS => ?_)
    have hR : MR S5 a0 t (iI (iL (mAn1 g gt kk) 5 kk (((mAn1 g gt kk).2.1 5 kk) - (1000 * tok.toInt64))) 13 ((8 * gt) + kk) count) := by rw [e1]; exact hR.wI
    replace hO : MO S S5 a0 t := by rw [e1]; exact hO.wI
    clear e1
    refine lv_aload_n hx hb dX11_answer_184 rfl (lv_at hl 4 rfl) ?_
    refine g_1115 C hinX11 hW hR.1.1 (mA_15 hR.1) l51 dX11_answer_185 ?_
    refine lv_iload hx hb dX11_answer_188 (lv_at hl 3 rfl) ?_
    refine lv_iload hx hb dX11_answer_190 (lv_at hl 0 rfl) ?_
    refine a_Istore C hW hS (j := ((8 * gt) + kk)) (mK_15 hR.1) (mN_15 hR.1) rfl (by omega) (by omega) dX11_answer_192 (fun S6 H locs e1 hW hS => ?_)
    have hR : MR S6 a0 t (iI (iI (iL (mAn1 g gt kk) 5 kk (((mAn1 g gt kk).2.1 5 kk) - (1000 * tok.toInt64))) 13 ((8 * gt) + kk) count) 15 ((8 * gt) + kk) tok) := by rw [e1]; exact hR.wI
    replace hO : MO S S6 a0 t := by rw [e1]; exact hO.wI
    clear e1
    refine lv_aload_n hx hb dX11_answer_193 rfl (lv_at hl 4 rfl) ?_
    refine g_1116 C hinX11 hW hR.1.1 (mA_16 hR.1) l54 dX11_answer_194 ?_
    refine lv_iload hx hb dX11_answer_197 (lv_at hl 3 rfl) ?_
    refine lv_aload_n hx hb dX11_answer_199 rfl (lv_at hl 4 rfl) ?_
    refine g_1111 C hinX11 hW hR.1.1 l38 dX11_answer_200 ?_
    refine top_i (show fI S6 1111 a0 = (iI (iI (iL (mAn1 g gt kk) 5 kk (((mAn1 g gt kk).2.1 5 kk) - (1000 * tok.toInt64))) 13 ((8 * gt) + kk) count) 15 ((8 * gt) + kk) tok).2.2 1111 from hR.f 1111) ?_
    refine a_Istore C hW hS (j := ((8 * gt) + kk)) (mK_16 hR.1) (mN_16 hR.1) rfl (by omega) (by omega) dX11_answer_203 (fun S7 H locs e1 hW hS => ?_)
    have hR : MR S7 a0 t (iI (iI (iI (iL (mAn1 g gt kk) 5 kk (((mAn1 g gt kk).2.1 5 kk) - (1000 * tok.toInt64))) 13 ((8 * gt) + kk) count) 15 ((8 * gt) + kk) tok) 16 ((8 * gt) + kk) ((iI (iI (iL (mAn1 g gt kk) 5 kk (((mAn1 g gt kk).2.1 5 kk) - (1000 * tok.toInt64))) 13 ((8 * gt) + kk) count) 15 ((8 * gt) + kk) tok).2.2 1111)) := by rw [e1]; exact hR.wI
    replace hO : MO S S7 a0 t := by rw [e1]; exact hO.wI
    clear e1
    refine lv_aload_n hx hb dX11_answer_204 rfl (lv_at hl 4 rfl) ?_
    refine g_1114 C hinX11 hW hR.1.1 (mA_14 hR.1) l48 dX11_answer_205 ?_
    refine lv_iload hx hb dX11_answer_208 (lv_at hl 3 rfl) ?_
    refine lv_iconst (v := (-1)) hx hb dX11_answer_210 (by decide) ?_
    refine a_Istore C hW hS (j := ((8 * gt) + kk)) (mK_14 hR.1) (mN_14 hR.1) rfl (by omega) (by omega) dX11_answer_211 (fun S8 H locs e1 hW hS => ?_)
    have hR : MR S8 a0 t (iI (iI (iI (iI (iL (mAn1 g gt kk) 5 kk (((mAn1 g gt kk).2.1 5 kk) - (1000 * tok.toInt64))) 13 ((8 * gt) + kk) count) 15 ((8 * gt) + kk) tok) 16 ((8 * gt) + kk) ((iI (iI (iL (mAn1 g gt kk) 5 kk (((mAn1 g gt kk).2.1 5 kk) - (1000 * tok.toInt64))) 13 ((8 * gt) + kk) count) 15 ((8 * gt) + kk) tok).2.2 1111)) 14 ((8 * gt) + kk) (-1)) := by rw [e1]; exact hR.wI
    replace hO : MO S S8 a0 t := by rw [e1]; exact hO.wI
    clear e1
    refine lv_iload hx hb dX11_answer_212 (lv_at hl 0 rfl) ?_
    refine lv_if_le (tgt := 275) hx hb dX11_answer_214 (by decide) (fun c_214 => ?_) (fun c_214 => ?_)
    · exact k_vret C hr hlk hW hS hB ⟨hO, by rw [mAnswer, show mGets g gt kk tok = tok by rw [mGets, if_pos c_52], mAnswerX, if_neg (Int32.not_lt.mpr c_214)]; exact hR⟩ (Nat.le_refl _) (Nat.le_refl _) dX11_answer_275
    · refine lv_aload_n hx hb dX11_answer_217 rfl (lv_at hl 4 rfl) ?_
      refine g_1114 C hinX11 hW hR.1.1 (mA_14 hR.1) l48 dX11_answer_218 ?_
      refine lv_iload hx hb dX11_answer_221 (lv_at hl 3 rfl) ?_
      refine lv_aload_n hx hb dX11_answer_223 rfl (lv_at hl 4 rfl) ?_
      refine g_1107 C hinX11 hW hR.1.1 l111 dX11_answer_224 ?_
      refine top_i (show fI S8 1107 a0 = nI n from (hR.f 1107).trans hn) ?_
      refine a_Istore C hW hS (j := ((8 * gt) + kk)) (mK_14 hR.1) (mN_14 hR.1) rfl (by omega) (by omega) dX11_answer_227 (fun S9 H locs e1 hW hS => ?_)
      have hR : MR S9 a0 t (iI (iI (iI (iI (iI (iL (mAn1 g gt kk) 5 kk (((mAn1 g gt kk).2.1 5 kk) - (1000 * tok.toInt64))) 13 ((8 * gt) + kk) count) 15 ((8 * gt) + kk) tok) 16 ((8 * gt) + kk) ((iI (iI (iL (mAn1 g gt kk) 5 kk (((mAn1 g gt kk).2.1 5 kk) - (1000 * tok.toInt64))) 13 ((8 * gt) + kk) count) 15 ((8 * gt) + kk) tok).2.2 1111)) 14 ((8 * gt) + kk) (-1)) 14 ((8 * gt) + kk) (nI n)) := by rw [e1]; exact hR.wI
      replace hO : MO S S9 a0 t := by rw [e1]; exact hO.wI
      clear e1
      refine lv_aload_n hx hb dX11_answer_228 rfl (lv_at hl 4 rfl) ?_
      refine g_1108 C hinX11 hW hR.1.1 (mA_8 hR.1) l29 dX11_answer_229 ?_
      refine lv_aload_n hx hb dX11_answer_232 rfl (lv_at hl 4 rfl) ?_
      refine g_1107 C hinX11 hW hR.1.1 l111 dX11_answer_233 ?_
      refine top_i (show fI S9 1107 a0 = nI n from (hR.f 1107).trans hn) ?_
      refine lv_iload_n hx hb dX11_answer_236 rfl (lv_at hl 6 rfl) ?_
      refine a_Istore C hW hS (j := n) (mK_8 hR.1) (mN_8 hR.1) rfl (by omega) (by omega) dX11_answer_237 (fun S10 H locs e1 hW hS => ?_)
      have hR : MR S10 a0 t (iI (iI (iI (iI (iI (iI (iL (mAn1 g gt kk) 5 kk (((mAn1 g gt kk).2.1 5 kk) - (1000 * tok.toInt64))) 13 ((8 * gt) + kk) count) 15 ((8 * gt) + kk) tok) 16 ((8 * gt) + kk) ((iI (iI (iL (mAn1 g gt kk) 5 kk (((mAn1 g gt kk).2.1 5 kk) - (1000 * tok.toInt64))) 13 ((8 * gt) + kk) count) 15 ((8 * gt) + kk) tok).2.2 1111)) 14 ((8 * gt) + kk) (-1)) 14 ((8 * gt) + kk) (nI n)) 8 n (nI kk)) := by rw [e1]; exact hR.wI
      replace hO : MO S S10 a0 t := by rw [e1]; exact hO.wI
      clear e1
      refine lv_aload_n hx hb dX11_answer_238 rfl (lv_at hl 4 rfl) ?_
      refine g_1109 C hinX11 hW hR.1.1 (mA_9 hR.1) l32 dX11_answer_239 ?_
      refine lv_aload_n hx hb dX11_answer_242 rfl (lv_at hl 4 rfl) ?_
      refine g_1107 C hinX11 hW hR.1.1 l111 dX11_answer_243 ?_
      refine top_i (show fI S10 1107 a0 = nI n from (hR.f 1107).trans hn) ?_
      refine lv_iload hx hb dX11_answer_246 (lv_at hl 0 rfl) ?_
      refine a_Istore C hW hS (j := n) (mK_9 hR.1) (mN_9 hR.1) rfl (by omega) (by omega) dX11_answer_248 (fun S11 H locs e1 hW hS => ?_)
      have hR : MR S11 a0 t (iI (iI (iI (iI (iI (iI (iI (iL (mAn1 g gt kk) 5 kk (((mAn1 g gt kk).2.1 5 kk) - (1000 * tok.toInt64))) 13 ((8 * gt) + kk) count) 15 ((8 * gt) + kk) tok) 16 ((8 * gt) + kk) ((iI (iI (iL (mAn1 g gt kk) 5 kk (((mAn1 g gt kk).2.1 5 kk) - (1000 * tok.toInt64))) 13 ((8 * gt) + kk) count) 15 ((8 * gt) + kk) tok).2.2 1111)) 14 ((8 * gt) + kk) (-1)) 14 ((8 * gt) + kk) (nI n)) 8 n (nI kk)) 9 n tok) := by rw [e1]; exact hR.wI
      replace hO : MO S S11 a0 t := by rw [e1]; exact hO.wI
      clear e1
      refine lv_aload_n hx hb dX11_answer_249 rfl (lv_at hl 4 rfl) ?_
      refine g_1110 C hinX11 hW hR.1.1 (mA_10 hR.1) l35 dX11_answer_250 ?_
      refine lv_aload_n hx hb dX11_answer_253 rfl (lv_at hl 4 rfl) ?_
      refine g_1107 C hinX11 hW hR.1.1 l111 dX11_answer_254 ?_
      refine top_i (show fI S11 1107 a0 = nI n from (hR.f 1107).trans hn) ?_
      refine lv_iload hx hb dX11_answer_257 (lv_at hl 2 rfl) ?_
      refine lv_aload_n hx hb dX11_answer_259 rfl (lv_at hl 4 rfl) ?_
      refine g_1111 C hinX11 hW hR.1.1 l38 dX11_answer_260 ?_
      refine top_i (show fI S11 1111 a0 = (iI (iI (iI (iI (iI (iI (iI (iL (mAn1 g gt kk) 5 kk (((mAn1 g gt kk).2.1 5 kk) - (1000 * tok.toInt64))) 13 ((8 * gt) + kk) count) 15 ((8 * gt) + kk) tok) 16 ((8 * gt) + kk) ((iI (iI (iL (mAn1 g gt kk) 5 kk (((mAn1 g gt kk).2.1 5 kk) - (1000 * tok.toInt64))) 13 ((8 * gt) + kk) count) 15 ((8 * gt) + kk) tok).2.2 1111)) 14 ((8 * gt) + kk) (-1)) 14 ((8 * gt) + kk) (nI n)) 8 n (nI kk)) 9 n tok).2.2 1111 from hR.f 1111) ?_
      refine lv_iadd hx hb dX11_answer_263 ?_
      refine a_Istore C hW hS (j := n) (mK_10 hR.1) (mN_10 hR.1) rfl (by omega) (by omega) dX11_answer_264 (fun S12 H locs e1 hW hS => ?_)
      have hR : MR S12 a0 t (iI (iI (iI (iI (iI (iI (iI (iI (iL (mAn1 g gt kk) 5 kk (((mAn1 g gt kk).2.1 5 kk) - (1000 * tok.toInt64))) 13 ((8 * gt) + kk) count) 15 ((8 * gt) + kk) tok) 16 ((8 * gt) + kk) ((iI (iI (iL (mAn1 g gt kk) 5 kk (((mAn1 g gt kk).2.1 5 kk) - (1000 * tok.toInt64))) 13 ((8 * gt) + kk) count) 15 ((8 * gt) + kk) tok).2.2 1111)) 14 ((8 * gt) + kk) (-1)) 14 ((8 * gt) + kk) (nI n)) 8 n (nI kk)) 9 n tok) 10 n ((mClk g 6) + ((iI (iI (iI (iI (iI (iI (iI (iL (mAn1 g gt kk) 5 kk (((mAn1 g gt kk).2.1 5 kk) - (1000 * tok.toInt64))) 13 ((8 * gt) + kk) count) 15 ((8 * gt) + kk) tok) 16 ((8 * gt) + kk) ((iI (iI (iL (mAn1 g gt kk) 5 kk (((mAn1 g gt kk).2.1 5 kk) - (1000 * tok.toInt64))) 13 ((8 * gt) + kk) count) 15 ((8 * gt) + kk) tok).2.2 1111)) 14 ((8 * gt) + kk) (-1)) 14 ((8 * gt) + kk) (nI n)) 8 n (nI kk)) 9 n tok).2.2 1111))) := by rw [e1]; exact hR.wI
      replace hO : MO S S12 a0 t := by rw [e1]; exact hO.wI
      clear e1
      refine lv_aload_n hx hb dX11_answer_265 rfl (lv_at hl 4 rfl) ?_
      refine lv_dup hx hb dX11_answer_266 rfl ?_
      refine g_1107 C hinX11 hW hR.1.1 l111 dX11_answer_267 ?_
      refine top_i (show fI S12 1107 a0 = nI n from (hR.f 1107).trans hn) ?_
      refine lv_iconst (v := 1) hx hb dX11_answer_270 (by decide) ?_
      refine lv_iadd hx hb dX11_answer_271 ?_
      refine top_i (show (nI n) + 1 = nI (n + 1) from nI_add n 1) ?_
      refine p_1107 C hinX11 hW hS hR.1.1 l111 dX11_answer_272 (fun S13 H locs e1 hW hS => ?_)
      have hR : MR S13 a0 t (iF (iI (iI (iI (iI (iI (iI (iI (iI (iL (mAn1 g gt kk) 5 kk (((mAn1 g gt kk).2.1 5 kk) - (1000 * tok.toInt64))) 13 ((8 * gt) + kk) count) 15 ((8 * gt) + kk) tok) 16 ((8 * gt) + kk) ((iI (iI (iL (mAn1 g gt kk) 5 kk (((mAn1 g gt kk).2.1 5 kk) - (1000 * tok.toInt64))) 13 ((8 * gt) + kk) count) 15 ((8 * gt) + kk) tok).2.2 1111)) 14 ((8 * gt) + kk) (-1)) 14 ((8 * gt) + kk) (nI n)) 8 n (nI kk)) 9 n tok) 10 n ((mClk g 6) + ((iI (iI (iI (iI (iI (iI (iI (iL (mAn1 g gt kk) 5 kk (((mAn1 g gt kk).2.1 5 kk) - (1000 * tok.toInt64))) 13 ((8 * gt) + kk) count) 15 ((8 * gt) + kk) tok) 16 ((8 * gt) + kk) ((iI (iI (iL (mAn1 g gt kk) 5 kk (((mAn1 g gt kk).2.1 5 kk) - (1000 * tok.toInt64))) 13 ((8 * gt) + kk) count) 15 ((8 * gt) + kk) tok).2.2 1111)) 14 ((8 * gt) + kk) (-1)) 14 ((8 * gt) + kk) (nI n)) 8 n (nI kk)) 9 n tok).2.2 1111))) 1107 (nI (n + 1))) := by rw [e1]; exact hR.wF
      replace hO : MO S S13 a0 t := by rw [e1]; exact hO.wF
      clear e1
      exact k_vret C hr hlk hW hS hB ⟨hO, by rw [mAnswer, show mGets g gt kk tok = tok by rw [mGets, if_pos c_52], mAnswerX, if_pos (Int32.not_le.mp c_214)]; exact hR⟩ (Nat.le_refl _) (Nat.le_refl _) dX11_answer_275
  · refine lv_iconst (v := 0) hx hb dX11_answer_55 (by decide) ?_
    refine lv_istore (lv' := [(9, .int 0), (8, .int tok), (7, .int (mFree g kk)), (6, .int (mClk g 6)), (5, .int (nI ((8 * gt) + kk))), (0, .ref a0), (1, .int (nI gt)), (2, .int (nI kk)), (3, .int tok), (4, .int count)]) hx hb dX11_answer_56 hl (by decide) rfl (fun ls hl => ?_)
    refine lv_iconst (v := 0) hx hb dX11_answer_58 (by decide) ?_
    refine lv_istore (lv' := [(10, .int 0), (9, .int 0), (8, .int tok), (7, .int (mFree g kk)), (6, .int (mClk g 6)), (5, .int (nI ((8 * gt) + kk))), (0, .ref a0), (1, .int (nI gt)), (2, .int (nI kk)), (3, .int tok), (4, .int count)]) hx hb dX11_answer_59 hl (by decide) rfl (fun ls hl => ?_)
    have lp : ∀ (d j : Nat) (x9 : Int32) (ls : Array Slot), j ≤ 6 → 6 - j < d → x9 = mSumW (mAn1 g gt kk) kk (mClk g 6) j → lv_has ls 12 [(0, .ref a0), (1, .int (nI gt)), (2, .int (nI kk)), (3, .int tok), (4, .int count), (5, .int (nI ((8 * gt) + kk))), (6, .int (mClk g 6)), (7, .int (mFree g kk)), (8, .int tok), (9, .int x9), (10, .int (nI j))] → W p l e ({ frames := 1, cells := 0, slots := 0, locals := 21 }) s m [.ref a0, .int (nI gt), .int (nI kk), .int tok, .int count].toArray below meth c H locs 0 0 (MQ below (va_Qv (fun S2 => MO S S2 a0 t ∧ MR S2 a0 t (mAnswer g n gt kk tok count)) (PreW D cy B s0) (Aw B)) [.ref a0, .int (nI gt), .int (nI kk), .int tok, .int count].toArray s 0 0 (Aw B)) (F0 m 61 ls []) := by
      intro d
      induction d with
      | zero => intro j x9 ls _ hd; exact absurd hd (Nat.not_lt_zero _)
      | succ d ih =>
        intro j x9 ls hk hd e9w hl
        refine lv_iload hx hb dX11_answer_61 (lv_at hl 10 rfl) ?_
        refine lv_bipush (v := 6) hx hb dX11_answer_63 (by decide) ?_
        refine lv_icmp_ge (tgt := 126) hx hb dX11_answer_65 (by decide) (fun c_65 => ?_) (fun c_65 => ?_)
        · have q_65 : 6 ≤ j := (nI_leI (a := 6) (b := j) (by omega) (by omega)).mp c_65
          refine lv_iload hx hb dX11_answer_126 (lv_at hl 7 rfl) ?_
          refine lv_aload_n hx hb dX11_answer_128 rfl (lv_at hl 0 rfl) ?_
          refine g_1119 C hinX11 hW hR.1.1 (mA_19 hR.1) l64 dX11_answer_129 ?_
          refine lv_iload hx hb dX11_answer_132 (lv_at hl 5 rfl) ?_
          refine a_Iload C hW (j := ((8 * gt) + kk)) (mK_19 hR.1) (mN_19 hR.1) rfl (by omega) (by omega) dX11_answer_134 ?_
          refine top_i (show aI S3 (t 19) ((8 * gt) + kk) = (mAn1 g gt kk).1 19 ((8 * gt) + kk) from hR.i 19 ((8 * gt) + kk)) ?_
          refine lv_imul hx hb dX11_answer_135 ?_
          refine lv_iload hx hb dX11_answer_136 (lv_at hl 9 rfl) ?_
          refine lv_idiv hx hb dX11_answer_138 (by rw [e9w, show j = 6 by omega]; exact mAn1_ne hw9 hg hkk) ?_
          refine lv_istore (lv' := [(8, .int (((mFree g kk) * ((mAn1 g gt kk).1 19 ((8 * gt) + kk))) / x9)), (0, .ref a0), (1, .int (nI gt)), (2, .int (nI kk)), (3, .int tok), (4, .int count), (5, .int (nI ((8 * gt) + kk))), (6, .int (mClk g 6)), (7, .int (mFree g kk)), (9, .int x9), (10, .int (nI j))]) hx hb dX11_answer_139 hl (by decide) rfl (fun ls hl => ?_)
          refine lv_iload hx hb dX11_answer_141 (lv_at hl 0 rfl) ?_
          refine lv_iload_n hx hb dX11_answer_143 rfl (lv_at hl 4 rfl) ?_
          refine lv_icmp_ge (tgt := 152) hx hb dX11_answer_144 (by decide) (fun c_144 => ?_) (fun c_144 => ?_)
          · refine lv_iload_n hx hb dX11_answer_152 rfl (lv_at hl 4 rfl) ?_
            refine lv_istore (lv' := [(8, .int tok), (0, .ref a0), (1, .int (nI gt)), (2, .int (nI kk)), (3, .int tok), (4, .int count), (5, .int (nI ((8 * gt) + kk))), (6, .int (mClk g 6)), (7, .int (mFree g kk)), (9, .int x9), (10, .int (nI j))]) hx hb dX11_answer_153 hl (by decide) rfl (fun ls hl => ?_)
            refine lv_aload_n hx hb dX11_answer_155 rfl (lv_at hl 1 rfl) ?_
            refine g_1105 C hinX11 hW hR.1.1 (mA_5 hR.1) l23 dX11_answer_156 ?_
            refine lv_iload_n hx hb dX11_answer_159 rfl (lv_at hl 3 rfl) ?_
            refine lv_aload_n hx hb dX11_answer_160 rfl (lv_at hl 1 rfl) ?_
            refine g_1105 C hinX11 hW hR.1.1 (mA_5 hR.1) l23 dX11_answer_161 ?_
            refine lv_iload_n hx hb dX11_answer_164 rfl (lv_at hl 3 rfl) ?_
            refine a_Jload C hW (j := kk) (mK_5 hR.1) (mN_5 hR.1) rfl (by omega) (by omega) dX11_answer_165 ?_
            refine top_l (show aJ S3 (t 5) kk = (mAn1 g gt kk).2.1 5 kk from hR.l 5 kk) ?_
            refine lv_ldc2 hx hb hown (hts _ l109) dX11_answer_166 ?_
            refine lv_iload hx hb dX11_answer_169 (lv_at hl 0 rfl) ?_
            refine lv_i2l (v := tok.toInt64) hx hb dX11_answer_171 rfl ?_
            refine lv_lmul hx hb dX11_answer_172 ?_
            refine lv_lsub hx hb dX11_answer_173 ?_
            refine a_Jstore C hW hS (j := kk) (mK_5 hR.1) (mN_5 hR.1) rfl (by omega) (by omega) dX11_answer_174 (fun S14 H locs e1 hW hS => ?_)
            have hR : MR S14 a0 t (iL (mAn1 g gt kk) 5 kk (((mAn1 g gt kk).2.1 5 kk) - (1000 * tok.toInt64))) := by rw [e1]; exact hR.wJ
            replace hO : MO S S14 a0 t := by rw [e1]; exact hO.wJ
            clear e1
            refine lv_aload_n hx hb dX11_answer_175 rfl (lv_at hl 1 rfl) ?_
            refine g_1113 C hinX11 hW hR.1.1 (mA_13 hR.1) l45 dX11_answer_176 ?_
            refine lv_iload hx hb dX11_answer_179 (lv_at hl 6 rfl) ?_
            refine lv_iload hx hb dX11_answer_181 (lv_at hl 5 rfl) ?_
            refine a_Istore C hW hS (j := ((8 * gt) + kk)) (mK_13 hR.1) (mN_13 hR.1) rfl (by omega) (by omega) dX11_answer_183 (fun S15 H locs e1 hW hS => ?_)
            have hR : MR S15 a0 t (iI (iL (mAn1 g gt kk) 5 kk (((mAn1 g gt kk).2.1 5 kk) - (1000 * tok.toInt64))) 13 ((8 * gt) + kk) count) := by rw [e1]; exact hR.wI
            replace hO : MO S S15 a0 t := by rw [e1]; exact hO.wI
            clear e1
            refine lv_aload_n hx hb dX11_answer_184 rfl (lv_at hl 1 rfl) ?_
            refine g_1115 C hinX11 hW hR.1.1 (mA_15 hR.1) l51 dX11_answer_185 ?_
            refine lv_iload hx hb dX11_answer_188 (lv_at hl 6 rfl) ?_
            refine lv_iload hx hb dX11_answer_190 (lv_at hl 0 rfl) ?_
            refine a_Istore C hW hS (j := ((8 * gt) + kk)) (mK_15 hR.1) (mN_15 hR.1) rfl (by omega) (by omega) dX11_answer_192 (fun S16 H locs e1 hW hS => ?_)
            have hR : MR S16 a0 t (iI (iI (iL (mAn1 g gt kk) 5 kk (((mAn1 g gt kk).2.1 5 kk) - (1000 * tok.toInt64))) 13 ((8 * gt) + kk) count) 15 ((8 * gt) + kk) tok) := by rw [e1]; exact hR.wI
            replace hO : MO S S16 a0 t := by rw [e1]; exact hO.wI
            clear e1
            refine lv_aload_n hx hb dX11_answer_193 rfl (lv_at hl 1 rfl) ?_
            refine g_1116 C hinX11 hW hR.1.1 (mA_16 hR.1) l54 dX11_answer_194 ?_
            refine lv_iload hx hb dX11_answer_197 (lv_at hl 6 rfl) ?_
            refine lv_aload_n hx hb dX11_answer_199 rfl (lv_at hl 1 rfl) ?_
            refine g_1111 C hinX11 hW hR.1.1 l38 dX11_answer_200 ?_
            refine top_i (show fI S16 1111 a0 = (iI (iI (iL (mAn1 g gt kk) 5 kk (((mAn1 g gt kk).2.1 5 kk) - (1000 * tok.toInt64))) 13 ((8 * gt) + kk) count) 15 ((8 * gt) + kk) tok).2.2 1111 from hR.f 1111) ?_
            refine a_Istore C hW hS (j := ((8 * gt) + kk)) (mK_16 hR.1) (mN_16 hR.1) rfl (by omega) (by omega) dX11_answer_203 (fun S17 H locs e1 hW hS => ?_)
            have hR : MR S17 a0 t (iI (iI (iI (iL (mAn1 g gt kk) 5 kk (((mAn1 g gt kk).2.1 5 kk) - (1000 * tok.toInt64))) 13 ((8 * gt) + kk) count) 15 ((8 * gt) + kk) tok) 16 ((8 * gt) + kk) ((iI (iI (iL (mAn1 g gt kk) 5 kk (((mAn1 g gt kk).2.1 5 kk) - (1000 * tok.toInt64))) 13 ((8 * gt) + kk) count) 15 ((8 * gt) + kk) tok).2.2 1111)) := by rw [e1]; exact hR.wI
            replace hO : MO S S17 a0 t := by rw [e1]; exact hO.wI
            clear e1
            refine lv_aload_n hx hb dX11_answer_204 rfl (lv_at hl 1 rfl) ?_
            refine g_1114 C hinX11 hW hR.1.1 (mA_14 hR.1) l48 dX11_answer_205 ?_
            refine lv_iload hx hb dX11_answer_208 (lv_at hl 6 rfl) ?_
            refine lv_iconst (v := (-1)) hx hb dX11_answer_210 (by decide) ?_
            refine a_Istore C hW hS (j := ((8 * gt) + kk)) (mK_14 hR.1) (mN_14 hR.1) rfl (by omega) (by omega) dX11_answer_211 (fun S18 H locs e1 hW hS => ?_)
            have hR : MR S18 a0 t (iI (iI (iI (iI (iL (mAn1 g gt kk) 5 kk (((mAn1 g gt kk).2.1 5 kk) - (1000 * tok.toInt64))) 13 ((8 * gt) + kk) count) 15 ((8 * gt) + kk) tok) 16 ((8 * gt) + kk) ((iI (iI (iL (mAn1 g gt kk) 5 kk (((mAn1 g gt kk).2.1 5 kk) - (1000 * tok.toInt64))) 13 ((8 * gt) + kk) count) 15 ((8 * gt) + kk) tok).2.2 1111)) 14 ((8 * gt) + kk) (-1)) := by rw [e1]; exact hR.wI
            replace hO : MO S S18 a0 t := by rw [e1]; exact hO.wI
            clear e1
            refine lv_iload hx hb dX11_answer_212 (lv_at hl 0 rfl) ?_
            refine lv_if_le (tgt := 275) hx hb dX11_answer_214 (by decide) (fun c_214 => ?_) (fun c_214 => ?_)
            · exact k_vret C hr hlk hW hS hB ⟨hO, by rw [mAnswer, show mGets g gt kk tok = tok by rw [mGets, if_neg c_52, if_neg (by rw [← (show x9 = mSumW (mAn1 g gt kk) kk (mClk g 6) 6 by rw [e9w, show j = 6 by omega])]; exact Int32.not_lt.mpr c_144)], mAnswerX, if_neg (Int32.not_lt.mpr c_214)]; exact hR⟩ (Nat.le_refl _) (Nat.le_refl _) dX11_answer_275
            · refine lv_aload_n hx hb dX11_answer_217 rfl (lv_at hl 1 rfl) ?_
              refine g_1114 C hinX11 hW hR.1.1 (mA_14 hR.1) l48 dX11_answer_218 ?_
              refine lv_iload hx hb dX11_answer_221 (lv_at hl 6 rfl) ?_
              refine lv_aload_n hx hb dX11_answer_223 rfl (lv_at hl 1 rfl) ?_
              refine g_1107 C hinX11 hW hR.1.1 l111 dX11_answer_224 ?_
              refine top_i (show fI S18 1107 a0 = nI n from (hR.f 1107).trans hn) ?_
              refine a_Istore C hW hS (j := ((8 * gt) + kk)) (mK_14 hR.1) (mN_14 hR.1) rfl (by omega) (by omega) dX11_answer_227 (fun S19 H locs e1 hW hS => ?_)
              have hR : MR S19 a0 t (iI (iI (iI (iI (iI (iL (mAn1 g gt kk) 5 kk (((mAn1 g gt kk).2.1 5 kk) - (1000 * tok.toInt64))) 13 ((8 * gt) + kk) count) 15 ((8 * gt) + kk) tok) 16 ((8 * gt) + kk) ((iI (iI (iL (mAn1 g gt kk) 5 kk (((mAn1 g gt kk).2.1 5 kk) - (1000 * tok.toInt64))) 13 ((8 * gt) + kk) count) 15 ((8 * gt) + kk) tok).2.2 1111)) 14 ((8 * gt) + kk) (-1)) 14 ((8 * gt) + kk) (nI n)) := by rw [e1]; exact hR.wI
              replace hO : MO S S19 a0 t := by rw [e1]; exact hO.wI
              clear e1
              refine lv_aload_n hx hb dX11_answer_228 rfl (lv_at hl 1 rfl) ?_
              refine g_1108 C hinX11 hW hR.1.1 (mA_8 hR.1) l29 dX11_answer_229 ?_
              refine lv_aload_n hx hb dX11_answer_232 rfl (lv_at hl 1 rfl) ?_
              refine g_1107 C hinX11 hW hR.1.1 l111 dX11_answer_233 ?_
              refine top_i (show fI S19 1107 a0 = nI n from (hR.f 1107).trans hn) ?_
              refine lv_iload_n hx hb dX11_answer_236 rfl (lv_at hl 3 rfl) ?_
              refine a_Istore C hW hS (j := n) (mK_8 hR.1) (mN_8 hR.1) rfl (by omega) (by omega) dX11_answer_237 (fun S20 H locs e1 hW hS => ?_)
              have hR : MR S20 a0 t (iI (iI (iI (iI (iI (iI (iL (mAn1 g gt kk) 5 kk (((mAn1 g gt kk).2.1 5 kk) - (1000 * tok.toInt64))) 13 ((8 * gt) + kk) count) 15 ((8 * gt) + kk) tok) 16 ((8 * gt) + kk) ((iI (iI (iL (mAn1 g gt kk) 5 kk (((mAn1 g gt kk).2.1 5 kk) - (1000 * tok.toInt64))) 13 ((8 * gt) + kk) count) 15 ((8 * gt) + kk) tok).2.2 1111)) 14 ((8 * gt) + kk) (-1)) 14 ((8 * gt) + kk) (nI n)) 8 n (nI kk)) := by rw [e1]; exact hR.wI
              replace hO : MO S S20 a0 t := by rw [e1]; exact hO.wI
              clear e1
              refine lv_aload_n hx hb dX11_answer_238 rfl (lv_at hl 1 rfl) ?_
              refine g_1109 C hinX11 hW hR.1.1 (mA_9 hR.1) l32 dX11_answer_239 ?_
              refine lv_aload_n hx hb dX11_answer_242 rfl (lv_at hl 1 rfl) ?_
              refine g_1107 C hinX11 hW hR.1.1 l111 dX11_answer_243 ?_
              refine top_i (show fI S20 1107 a0 = nI n from (hR.f 1107).trans hn) ?_
              refine lv_iload hx hb dX11_answer_246 (lv_at hl 0 rfl) ?_
              refine a_Istore C hW hS (j := n) (mK_9 hR.1) (mN_9 hR.1) rfl (by omega) (by omega) dX11_answer_248 (fun S21 H locs e1 hW hS => ?_)
              have hR : MR S21 a0 t (iI (iI (iI (iI (iI (iI (iI (iL (mAn1 g gt kk) 5 kk (((mAn1 g gt kk).2.1 5 kk) - (1000 * tok.toInt64))) 13 ((8 * gt) + kk) count) 15 ((8 * gt) + kk) tok) 16 ((8 * gt) + kk) ((iI (iI (iL (mAn1 g gt kk) 5 kk (((mAn1 g gt kk).2.1 5 kk) - (1000 * tok.toInt64))) 13 ((8 * gt) + kk) count) 15 ((8 * gt) + kk) tok).2.2 1111)) 14 ((8 * gt) + kk) (-1)) 14 ((8 * gt) + kk) (nI n)) 8 n (nI kk)) 9 n tok) := by rw [e1]; exact hR.wI
              replace hO : MO S S21 a0 t := by rw [e1]; exact hO.wI
              clear e1
              refine lv_aload_n hx hb dX11_answer_249 rfl (lv_at hl 1 rfl) ?_
              refine g_1110 C hinX11 hW hR.1.1 (mA_10 hR.1) l35 dX11_answer_250 ?_
              refine lv_aload_n hx hb dX11_answer_253 rfl (lv_at hl 1 rfl) ?_
              refine g_1107 C hinX11 hW hR.1.1 l111 dX11_answer_254 ?_
              refine top_i (show fI S21 1107 a0 = nI n from (hR.f 1107).trans hn) ?_
              refine lv_iload hx hb dX11_answer_257 (lv_at hl 7 rfl) ?_
              refine lv_aload_n hx hb dX11_answer_259 rfl (lv_at hl 1 rfl) ?_
              refine g_1111 C hinX11 hW hR.1.1 l38 dX11_answer_260 ?_
              refine top_i (show fI S21 1111 a0 = (iI (iI (iI (iI (iI (iI (iI (iL (mAn1 g gt kk) 5 kk (((mAn1 g gt kk).2.1 5 kk) - (1000 * tok.toInt64))) 13 ((8 * gt) + kk) count) 15 ((8 * gt) + kk) tok) 16 ((8 * gt) + kk) ((iI (iI (iL (mAn1 g gt kk) 5 kk (((mAn1 g gt kk).2.1 5 kk) - (1000 * tok.toInt64))) 13 ((8 * gt) + kk) count) 15 ((8 * gt) + kk) tok).2.2 1111)) 14 ((8 * gt) + kk) (-1)) 14 ((8 * gt) + kk) (nI n)) 8 n (nI kk)) 9 n tok).2.2 1111 from hR.f 1111) ?_
              refine lv_iadd hx hb dX11_answer_263 ?_
              refine a_Istore C hW hS (j := n) (mK_10 hR.1) (mN_10 hR.1) rfl (by omega) (by omega) dX11_answer_264 (fun S22 H locs e1 hW hS => ?_)
              have hR : MR S22 a0 t (iI (iI (iI (iI (iI (iI (iI (iI (iL (mAn1 g gt kk) 5 kk (((mAn1 g gt kk).2.1 5 kk) - (1000 * tok.toInt64))) 13 ((8 * gt) + kk) count) 15 ((8 * gt) + kk) tok) 16 ((8 * gt) + kk) ((iI (iI (iL (mAn1 g gt kk) 5 kk (((mAn1 g gt kk).2.1 5 kk) - (1000 * tok.toInt64))) 13 ((8 * gt) + kk) count) 15 ((8 * gt) + kk) tok).2.2 1111)) 14 ((8 * gt) + kk) (-1)) 14 ((8 * gt) + kk) (nI n)) 8 n (nI kk)) 9 n tok) 10 n ((mClk g 6) + ((iI (iI (iI (iI (iI (iI (iI (iL (mAn1 g gt kk) 5 kk (((mAn1 g gt kk).2.1 5 kk) - (1000 * tok.toInt64))) 13 ((8 * gt) + kk) count) 15 ((8 * gt) + kk) tok) 16 ((8 * gt) + kk) ((iI (iI (iL (mAn1 g gt kk) 5 kk (((mAn1 g gt kk).2.1 5 kk) - (1000 * tok.toInt64))) 13 ((8 * gt) + kk) count) 15 ((8 * gt) + kk) tok).2.2 1111)) 14 ((8 * gt) + kk) (-1)) 14 ((8 * gt) + kk) (nI n)) 8 n (nI kk)) 9 n tok).2.2 1111))) := by rw [e1]; exact hR.wI
              replace hO : MO S S22 a0 t := by rw [e1]; exact hO.wI
              clear e1
              refine lv_aload_n hx hb dX11_answer_265 rfl (lv_at hl 1 rfl) ?_
              refine lv_dup hx hb dX11_answer_266 rfl ?_
              refine g_1107 C hinX11 hW hR.1.1 l111 dX11_answer_267 ?_
              refine top_i (show fI S22 1107 a0 = nI n from (hR.f 1107).trans hn) ?_
              refine lv_iconst (v := 1) hx hb dX11_answer_270 (by decide) ?_
              refine lv_iadd hx hb dX11_answer_271 ?_
              refine top_i (show (nI n) + 1 = nI (n + 1) from nI_add n 1) ?_
              refine p_1107 C hinX11 hW hS hR.1.1 l111 dX11_answer_272 (fun S23 H locs e1 hW hS => ?_)
              have hR : MR S23 a0 t (iF (iI (iI (iI (iI (iI (iI (iI (iI (iL (mAn1 g gt kk) 5 kk (((mAn1 g gt kk).2.1 5 kk) - (1000 * tok.toInt64))) 13 ((8 * gt) + kk) count) 15 ((8 * gt) + kk) tok) 16 ((8 * gt) + kk) ((iI (iI (iL (mAn1 g gt kk) 5 kk (((mAn1 g gt kk).2.1 5 kk) - (1000 * tok.toInt64))) 13 ((8 * gt) + kk) count) 15 ((8 * gt) + kk) tok).2.2 1111)) 14 ((8 * gt) + kk) (-1)) 14 ((8 * gt) + kk) (nI n)) 8 n (nI kk)) 9 n tok) 10 n ((mClk g 6) + ((iI (iI (iI (iI (iI (iI (iI (iL (mAn1 g gt kk) 5 kk (((mAn1 g gt kk).2.1 5 kk) - (1000 * tok.toInt64))) 13 ((8 * gt) + kk) count) 15 ((8 * gt) + kk) tok) 16 ((8 * gt) + kk) ((iI (iI (iL (mAn1 g gt kk) 5 kk (((mAn1 g gt kk).2.1 5 kk) - (1000 * tok.toInt64))) 13 ((8 * gt) + kk) count) 15 ((8 * gt) + kk) tok).2.2 1111)) 14 ((8 * gt) + kk) (-1)) 14 ((8 * gt) + kk) (nI n)) 8 n (nI kk)) 9 n tok).2.2 1111))) 1107 (nI (n + 1))) := by rw [e1]; exact hR.wF
              replace hO : MO S S23 a0 t := by rw [e1]; exact hO.wF
              clear e1
              exact k_vret C hr hlk hW hS hB ⟨hO, by rw [mAnswer, show mGets g gt kk tok = tok by rw [mGets, if_neg c_52, if_neg (by rw [← (show x9 = mSumW (mAn1 g gt kk) kk (mClk g 6) 6 by rw [e9w, show j = 6 by omega])]; exact Int32.not_lt.mpr c_144)], mAnswerX, if_pos (Int32.not_le.mp c_214)]; exact hR⟩ (Nat.le_refl _) (Nat.le_refl _) dX11_answer_275
          · refine lv_iload hx hb dX11_answer_147 (lv_at hl 0 rfl) ?_
            refine lv_goto (tgt := 153) hx hb dX11_answer_149 (by decide) ?_
            refine lv_istore (lv' := [(8, .int (((mFree g kk) * ((mAn1 g gt kk).1 19 ((8 * gt) + kk))) / x9)), (0, .ref a0), (1, .int (nI gt)), (2, .int (nI kk)), (3, .int tok), (4, .int count), (5, .int (nI ((8 * gt) + kk))), (6, .int (mClk g 6)), (7, .int (mFree g kk)), (9, .int x9), (10, .int (nI j))]) hx hb dX11_answer_153 hl (by decide) rfl (fun ls hl => ?_)
            refine lv_aload_n hx hb dX11_answer_155 rfl (lv_at hl 1 rfl) ?_
            refine g_1105 C hinX11 hW hR.1.1 (mA_5 hR.1) l23 dX11_answer_156 ?_
            refine lv_iload_n hx hb dX11_answer_159 rfl (lv_at hl 3 rfl) ?_
            refine lv_aload_n hx hb dX11_answer_160 rfl (lv_at hl 1 rfl) ?_
            refine g_1105 C hinX11 hW hR.1.1 (mA_5 hR.1) l23 dX11_answer_161 ?_
            refine lv_iload_n hx hb dX11_answer_164 rfl (lv_at hl 3 rfl) ?_
            refine a_Jload C hW (j := kk) (mK_5 hR.1) (mN_5 hR.1) rfl (by omega) (by omega) dX11_answer_165 ?_
            refine top_l (show aJ S3 (t 5) kk = (mAn1 g gt kk).2.1 5 kk from hR.l 5 kk) ?_
            refine lv_ldc2 hx hb hown (hts _ l109) dX11_answer_166 ?_
            refine lv_iload hx hb dX11_answer_169 (lv_at hl 0 rfl) ?_
            refine lv_i2l (v := (((mFree g kk) * ((mAn1 g gt kk).1 19 ((8 * gt) + kk))) / x9).toInt64) hx hb dX11_answer_171 rfl ?_
            refine lv_lmul hx hb dX11_answer_172 ?_
            refine lv_lsub hx hb dX11_answer_173 ?_
            refine a_Jstore C hW hS (j := kk) (mK_5 hR.1) (mN_5 hR.1) rfl (by omega) (by omega) dX11_answer_174 (fun S24 H locs e1 hW hS => ?_)
            have hR : MR S24 a0 t (iL (mAn1 g gt kk) 5 kk (((mAn1 g gt kk).2.1 5 kk) - (1000 * ((((mFree g kk) * ((mAn1 g gt kk).1 19 ((8 * gt) + kk))) / x9).toInt64)))) := by rw [e1]; exact hR.wJ
            replace hO : MO S S24 a0 t := by rw [e1]; exact hO.wJ
            clear e1
            refine lv_aload_n hx hb dX11_answer_175 rfl (lv_at hl 1 rfl) ?_
            refine g_1113 C hinX11 hW hR.1.1 (mA_13 hR.1) l45 dX11_answer_176 ?_
            refine lv_iload hx hb dX11_answer_179 (lv_at hl 6 rfl) ?_
            refine lv_iload hx hb dX11_answer_181 (lv_at hl 5 rfl) ?_
            refine a_Istore C hW hS (j := ((8 * gt) + kk)) (mK_13 hR.1) (mN_13 hR.1) rfl (by omega) (by omega) dX11_answer_183 (fun S25 H locs e1 hW hS => ?_)
            have hR : MR S25 a0 t (iI (iL (mAn1 g gt kk) 5 kk (((mAn1 g gt kk).2.1 5 kk) - (1000 * ((((mFree g kk) * ((mAn1 g gt kk).1 19 ((8 * gt) + kk))) / x9).toInt64)))) 13 ((8 * gt) + kk) count) := by rw [e1]; exact hR.wI
            replace hO : MO S S25 a0 t := by rw [e1]; exact hO.wI
            clear e1
            refine lv_aload_n hx hb dX11_answer_184 rfl (lv_at hl 1 rfl) ?_
            refine g_1115 C hinX11 hW hR.1.1 (mA_15 hR.1) l51 dX11_answer_185 ?_
            refine lv_iload hx hb dX11_answer_188 (lv_at hl 6 rfl) ?_
            refine lv_iload hx hb dX11_answer_190 (lv_at hl 0 rfl) ?_
            refine a_Istore C hW hS (j := ((8 * gt) + kk)) (mK_15 hR.1) (mN_15 hR.1) rfl (by omega) (by omega) dX11_answer_192 (fun S26 H locs e1 hW hS => ?_)
            have hR : MR S26 a0 t (iI (iI (iL (mAn1 g gt kk) 5 kk (((mAn1 g gt kk).2.1 5 kk) - (1000 * ((((mFree g kk) * ((mAn1 g gt kk).1 19 ((8 * gt) + kk))) / x9).toInt64)))) 13 ((8 * gt) + kk) count) 15 ((8 * gt) + kk) (((mFree g kk) * ((mAn1 g gt kk).1 19 ((8 * gt) + kk))) / x9)) := by rw [e1]; exact hR.wI
            replace hO : MO S S26 a0 t := by rw [e1]; exact hO.wI
            clear e1
            refine lv_aload_n hx hb dX11_answer_193 rfl (lv_at hl 1 rfl) ?_
            refine g_1116 C hinX11 hW hR.1.1 (mA_16 hR.1) l54 dX11_answer_194 ?_
            refine lv_iload hx hb dX11_answer_197 (lv_at hl 6 rfl) ?_
            refine lv_aload_n hx hb dX11_answer_199 rfl (lv_at hl 1 rfl) ?_
            refine g_1111 C hinX11 hW hR.1.1 l38 dX11_answer_200 ?_
            refine top_i (show fI S26 1111 a0 = (iI (iI (iL (mAn1 g gt kk) 5 kk (((mAn1 g gt kk).2.1 5 kk) - (1000 * ((((mFree g kk) * ((mAn1 g gt kk).1 19 ((8 * gt) + kk))) / x9).toInt64)))) 13 ((8 * gt) + kk) count) 15 ((8 * gt) + kk) (((mFree g kk) * ((mAn1 g gt kk).1 19 ((8 * gt) + kk))) / x9)).2.2 1111 from hR.f 1111) ?_
            refine a_Istore C hW hS (j := ((8 * gt) + kk)) (mK_16 hR.1) (mN_16 hR.1) rfl (by omega) (by omega) dX11_answer_203 (fun S27 H locs e1 hW hS => ?_)
            have hR : MR S27 a0 t (iI (iI (iI (iL (mAn1 g gt kk) 5 kk (((mAn1 g gt kk).2.1 5 kk) - (1000 * ((((mFree g kk) * ((mAn1 g gt kk).1 19 ((8 * gt) + kk))) / x9).toInt64)))) 13 ((8 * gt) + kk) count) 15 ((8 * gt) + kk) (((mFree g kk) * ((mAn1 g gt kk).1 19 ((8 * gt) + kk))) / x9)) 16 ((8 * gt) + kk) ((iI (iI (iL (mAn1 g gt kk) 5 kk (((mAn1 g gt kk).2.1 5 kk) - (1000 * ((((mFree g kk) * ((mAn1 g gt kk).1 19 ((8 * gt) + kk))) / x9).toInt64)))) 13 ((8 * gt) + kk) count) 15 ((8 * gt) + kk) (((mFree g kk) * ((mAn1 g gt kk).1 19 ((8 * gt) + kk))) / x9)).2.2 1111)) := by rw [e1]; exact hR.wI
            replace hO : MO S S27 a0 t := by rw [e1]; exact hO.wI
            clear e1
            refine lv_aload_n hx hb dX11_answer_204 rfl (lv_at hl 1 rfl) ?_
            refine g_1114 C hinX11 hW hR.1.1 (mA_14 hR.1) l48 dX11_answer_205 ?_
            refine lv_iload hx hb dX11_answer_208 (lv_at hl 6 rfl) ?_
            refine lv_iconst (v := (-1)) hx hb dX11_answer_210 (by decide) ?_
            refine a_Istore C hW hS (j := ((8 * gt) + kk)) (mK_14 hR.1) (mN_14 hR.1) rfl (by omega) (by omega) dX11_answer_211 (fun S28 H locs e1 hW hS => ?_)
            have hR : MR S28 a0 t (iI (iI (iI (iI (iL (mAn1 g gt kk) 5 kk (((mAn1 g gt kk).2.1 5 kk) - (1000 * ((((mFree g kk) * ((mAn1 g gt kk).1 19 ((8 * gt) + kk))) / x9).toInt64)))) 13 ((8 * gt) + kk) count) 15 ((8 * gt) + kk) (((mFree g kk) * ((mAn1 g gt kk).1 19 ((8 * gt) + kk))) / x9)) 16 ((8 * gt) + kk) ((iI (iI (iL (mAn1 g gt kk) 5 kk (((mAn1 g gt kk).2.1 5 kk) - (1000 * ((((mFree g kk) * ((mAn1 g gt kk).1 19 ((8 * gt) + kk))) / x9).toInt64)))) 13 ((8 * gt) + kk) count) 15 ((8 * gt) + kk) (((mFree g kk) * ((mAn1 g gt kk).1 19 ((8 * gt) + kk))) / x9)).2.2 1111)) 14 ((8 * gt) + kk) (-1)) := by rw [e1]; exact hR.wI
            replace hO : MO S S28 a0 t := by rw [e1]; exact hO.wI
            clear e1
            refine lv_iload hx hb dX11_answer_212 (lv_at hl 0 rfl) ?_
            refine lv_if_le (tgt := 275) hx hb dX11_answer_214 (by decide) (fun c_214 => ?_) (fun c_214 => ?_)
            · exact k_vret C hr hlk hW hS hB ⟨hO, by rw [mAnswer, show mGets g gt kk tok = (mFree g kk) * ((mAn1 g gt kk).1 19 ((8 * gt) + kk)) / x9 by rw [mGets, if_neg c_52, if_pos (by rw [← (show x9 = mSumW (mAn1 g gt kk) kk (mClk g 6) 6 by rw [e9w, show j = 6 by omega])]; exact Int32.not_le.mp c_144), ← (show x9 = mSumW (mAn1 g gt kk) kk (mClk g 6) 6 by rw [e9w, show j = 6 by omega])], mAnswerX, if_neg (Int32.not_lt.mpr c_214)]; exact hR⟩ (Nat.le_refl _) (Nat.le_refl _) dX11_answer_275
            · refine lv_aload_n hx hb dX11_answer_217 rfl (lv_at hl 1 rfl) ?_
              refine g_1114 C hinX11 hW hR.1.1 (mA_14 hR.1) l48 dX11_answer_218 ?_
              refine lv_iload hx hb dX11_answer_221 (lv_at hl 6 rfl) ?_
              refine lv_aload_n hx hb dX11_answer_223 rfl (lv_at hl 1 rfl) ?_
              refine g_1107 C hinX11 hW hR.1.1 l111 dX11_answer_224 ?_
              refine top_i (show fI S28 1107 a0 = nI n from (hR.f 1107).trans hn) ?_
              refine a_Istore C hW hS (j := ((8 * gt) + kk)) (mK_14 hR.1) (mN_14 hR.1) rfl (by omega) (by omega) dX11_answer_227 (fun S29 H locs e1 hW hS => ?_)
              have hR : MR S29 a0 t (iI (iI (iI (iI (iI (iL (mAn1 g gt kk) 5 kk (((mAn1 g gt kk).2.1 5 kk) - (1000 * ((((mFree g kk) * ((mAn1 g gt kk).1 19 ((8 * gt) + kk))) / x9).toInt64)))) 13 ((8 * gt) + kk) count) 15 ((8 * gt) + kk) (((mFree g kk) * ((mAn1 g gt kk).1 19 ((8 * gt) + kk))) / x9)) 16 ((8 * gt) + kk) ((iI (iI (iL (mAn1 g gt kk) 5 kk (((mAn1 g gt kk).2.1 5 kk) - (1000 * ((((mFree g kk) * ((mAn1 g gt kk).1 19 ((8 * gt) + kk))) / x9).toInt64)))) 13 ((8 * gt) + kk) count) 15 ((8 * gt) + kk) (((mFree g kk) * ((mAn1 g gt kk).1 19 ((8 * gt) + kk))) / x9)).2.2 1111)) 14 ((8 * gt) + kk) (-1)) 14 ((8 * gt) + kk) (nI n)) := by rw [e1]; exact hR.wI
              replace hO : MO S S29 a0 t := by rw [e1]; exact hO.wI
              clear e1
              refine lv_aload_n hx hb dX11_answer_228 rfl (lv_at hl 1 rfl) ?_
              refine g_1108 C hinX11 hW hR.1.1 (mA_8 hR.1) l29 dX11_answer_229 ?_
              refine lv_aload_n hx hb dX11_answer_232 rfl (lv_at hl 1 rfl) ?_
              refine g_1107 C hinX11 hW hR.1.1 l111 dX11_answer_233 ?_
              refine top_i (show fI S29 1107 a0 = nI n from (hR.f 1107).trans hn) ?_
              refine lv_iload_n hx hb dX11_answer_236 rfl (lv_at hl 3 rfl) ?_
              refine a_Istore C hW hS (j := n) (mK_8 hR.1) (mN_8 hR.1) rfl (by omega) (by omega) dX11_answer_237 (fun S30 H locs e1 hW hS => ?_)
              have hR : MR S30 a0 t (iI (iI (iI (iI (iI (iI (iL (mAn1 g gt kk) 5 kk (((mAn1 g gt kk).2.1 5 kk) - (1000 * ((((mFree g kk) * ((mAn1 g gt kk).1 19 ((8 * gt) + kk))) / x9).toInt64)))) 13 ((8 * gt) + kk) count) 15 ((8 * gt) + kk) (((mFree g kk) * ((mAn1 g gt kk).1 19 ((8 * gt) + kk))) / x9)) 16 ((8 * gt) + kk) ((iI (iI (iL (mAn1 g gt kk) 5 kk (((mAn1 g gt kk).2.1 5 kk) - (1000 * ((((mFree g kk) * ((mAn1 g gt kk).1 19 ((8 * gt) + kk))) / x9).toInt64)))) 13 ((8 * gt) + kk) count) 15 ((8 * gt) + kk) (((mFree g kk) * ((mAn1 g gt kk).1 19 ((8 * gt) + kk))) / x9)).2.2 1111)) 14 ((8 * gt) + kk) (-1)) 14 ((8 * gt) + kk) (nI n)) 8 n (nI kk)) := by rw [e1]; exact hR.wI
              replace hO : MO S S30 a0 t := by rw [e1]; exact hO.wI
              clear e1
              refine lv_aload_n hx hb dX11_answer_238 rfl (lv_at hl 1 rfl) ?_
              refine g_1109 C hinX11 hW hR.1.1 (mA_9 hR.1) l32 dX11_answer_239 ?_
              refine lv_aload_n hx hb dX11_answer_242 rfl (lv_at hl 1 rfl) ?_
              refine g_1107 C hinX11 hW hR.1.1 l111 dX11_answer_243 ?_
              refine top_i (show fI S30 1107 a0 = nI n from (hR.f 1107).trans hn) ?_
              refine lv_iload hx hb dX11_answer_246 (lv_at hl 0 rfl) ?_
              refine a_Istore C hW hS (j := n) (mK_9 hR.1) (mN_9 hR.1) rfl (by omega) (by omega) dX11_answer_248 (fun S31 H locs e1 hW hS => ?_)
              have hR : MR S31 a0 t (iI (iI (iI (iI (iI (iI (iI (iL (mAn1 g gt kk) 5 kk (((mAn1 g gt kk).2.1 5 kk) - (1000 * ((((mFree g kk) * ((mAn1 g gt kk).1 19 ((8 * gt) + kk))) / x9).toInt64)))) 13 ((8 * gt) + kk) count) 15 ((8 * gt) + kk) (((mFree g kk) * ((mAn1 g gt kk).1 19 ((8 * gt) + kk))) / x9)) 16 ((8 * gt) + kk) ((iI (iI (iL (mAn1 g gt kk) 5 kk (((mAn1 g gt kk).2.1 5 kk) - (1000 * ((((mFree g kk) * ((mAn1 g gt kk).1 19 ((8 * gt) + kk))) / x9).toInt64)))) 13 ((8 * gt) + kk) count) 15 ((8 * gt) + kk) (((mFree g kk) * ((mAn1 g gt kk).1 19 ((8 * gt) + kk))) / x9)).2.2 1111)) 14 ((8 * gt) + kk) (-1)) 14 ((8 * gt) + kk) (nI n)) 8 n (nI kk)) 9 n (((mFree g kk) * ((mAn1 g gt kk).1 19 ((8 * gt) + kk))) / x9)) := by rw [e1]; exact hR.wI
              replace hO : MO S S31 a0 t := by rw [e1]; exact hO.wI
              clear e1
              refine lv_aload_n hx hb dX11_answer_249 rfl (lv_at hl 1 rfl) ?_
              refine g_1110 C hinX11 hW hR.1.1 (mA_10 hR.1) l35 dX11_answer_250 ?_
              refine lv_aload_n hx hb dX11_answer_253 rfl (lv_at hl 1 rfl) ?_
              refine g_1107 C hinX11 hW hR.1.1 l111 dX11_answer_254 ?_
              refine top_i (show fI S31 1107 a0 = nI n from (hR.f 1107).trans hn) ?_
              refine lv_iload hx hb dX11_answer_257 (lv_at hl 7 rfl) ?_
              refine lv_aload_n hx hb dX11_answer_259 rfl (lv_at hl 1 rfl) ?_
              refine g_1111 C hinX11 hW hR.1.1 l38 dX11_answer_260 ?_
              refine top_i (show fI S31 1111 a0 = (iI (iI (iI (iI (iI (iI (iI (iL (mAn1 g gt kk) 5 kk (((mAn1 g gt kk).2.1 5 kk) - (1000 * ((((mFree g kk) * ((mAn1 g gt kk).1 19 ((8 * gt) + kk))) / x9).toInt64)))) 13 ((8 * gt) + kk) count) 15 ((8 * gt) + kk) (((mFree g kk) * ((mAn1 g gt kk).1 19 ((8 * gt) + kk))) / x9)) 16 ((8 * gt) + kk) ((iI (iI (iL (mAn1 g gt kk) 5 kk (((mAn1 g gt kk).2.1 5 kk) - (1000 * ((((mFree g kk) * ((mAn1 g gt kk).1 19 ((8 * gt) + kk))) / x9).toInt64)))) 13 ((8 * gt) + kk) count) 15 ((8 * gt) + kk) (((mFree g kk) * ((mAn1 g gt kk).1 19 ((8 * gt) + kk))) / x9)).2.2 1111)) 14 ((8 * gt) + kk) (-1)) 14 ((8 * gt) + kk) (nI n)) 8 n (nI kk)) 9 n (((mFree g kk) * ((mAn1 g gt kk).1 19 ((8 * gt) + kk))) / x9)).2.2 1111 from hR.f 1111) ?_
              refine lv_iadd hx hb dX11_answer_263 ?_
              refine a_Istore C hW hS (j := n) (mK_10 hR.1) (mN_10 hR.1) rfl (by omega) (by omega) dX11_answer_264 (fun S32 H locs e1 hW hS => ?_)
              have hR : MR S32 a0 t (iI (iI (iI (iI (iI (iI (iI (iI (iL (mAn1 g gt kk) 5 kk (((mAn1 g gt kk).2.1 5 kk) - (1000 * ((((mFree g kk) * ((mAn1 g gt kk).1 19 ((8 * gt) + kk))) / x9).toInt64)))) 13 ((8 * gt) + kk) count) 15 ((8 * gt) + kk) (((mFree g kk) * ((mAn1 g gt kk).1 19 ((8 * gt) + kk))) / x9)) 16 ((8 * gt) + kk) ((iI (iI (iL (mAn1 g gt kk) 5 kk (((mAn1 g gt kk).2.1 5 kk) - (1000 * ((((mFree g kk) * ((mAn1 g gt kk).1 19 ((8 * gt) + kk))) / x9).toInt64)))) 13 ((8 * gt) + kk) count) 15 ((8 * gt) + kk) (((mFree g kk) * ((mAn1 g gt kk).1 19 ((8 * gt) + kk))) / x9)).2.2 1111)) 14 ((8 * gt) + kk) (-1)) 14 ((8 * gt) + kk) (nI n)) 8 n (nI kk)) 9 n (((mFree g kk) * ((mAn1 g gt kk).1 19 ((8 * gt) + kk))) / x9)) 10 n ((mClk g 6) + ((iI (iI (iI (iI (iI (iI (iI (iL (mAn1 g gt kk) 5 kk (((mAn1 g gt kk).2.1 5 kk) - (1000 * ((((mFree g kk) * ((mAn1 g gt kk).1 19 ((8 * gt) + kk))) / x9).toInt64)))) 13 ((8 * gt) + kk) count) 15 ((8 * gt) + kk) (((mFree g kk) * ((mAn1 g gt kk).1 19 ((8 * gt) + kk))) / x9)) 16 ((8 * gt) + kk) ((iI (iI (iL (mAn1 g gt kk) 5 kk (((mAn1 g gt kk).2.1 5 kk) - (1000 * ((((mFree g kk) * ((mAn1 g gt kk).1 19 ((8 * gt) + kk))) / x9).toInt64)))) 13 ((8 * gt) + kk) count) 15 ((8 * gt) + kk) (((mFree g kk) * ((mAn1 g gt kk).1 19 ((8 * gt) + kk))) / x9)).2.2 1111)) 14 ((8 * gt) + kk) (-1)) 14 ((8 * gt) + kk) (nI n)) 8 n (nI kk)) 9 n (((mFree g kk) * ((mAn1 g gt kk).1 19 ((8 * gt) + kk))) / x9)).2.2 1111))) := by rw [e1]; exact hR.wI
              replace hO : MO S S32 a0 t := by rw [e1]; exact hO.wI
              clear e1
              refine lv_aload_n hx hb dX11_answer_265 rfl (lv_at hl 1 rfl) ?_
              refine lv_dup hx hb dX11_answer_266 rfl ?_
              refine g_1107 C hinX11 hW hR.1.1 l111 dX11_answer_267 ?_
              refine top_i (show fI S32 1107 a0 = nI n from (hR.f 1107).trans hn) ?_
              refine lv_iconst (v := 1) hx hb dX11_answer_270 (by decide) ?_
              refine lv_iadd hx hb dX11_answer_271 ?_
              refine top_i (show (nI n) + 1 = nI (n + 1) from nI_add n 1) ?_
              refine p_1107 C hinX11 hW hS hR.1.1 l111 dX11_answer_272 (fun S33 H locs e1 hW hS => ?_)
              have hR : MR S33 a0 t (iF (iI (iI (iI (iI (iI (iI (iI (iI (iL (mAn1 g gt kk) 5 kk (((mAn1 g gt kk).2.1 5 kk) - (1000 * ((((mFree g kk) * ((mAn1 g gt kk).1 19 ((8 * gt) + kk))) / x9).toInt64)))) 13 ((8 * gt) + kk) count) 15 ((8 * gt) + kk) (((mFree g kk) * ((mAn1 g gt kk).1 19 ((8 * gt) + kk))) / x9)) 16 ((8 * gt) + kk) ((iI (iI (iL (mAn1 g gt kk) 5 kk (((mAn1 g gt kk).2.1 5 kk) - (1000 * ((((mFree g kk) * ((mAn1 g gt kk).1 19 ((8 * gt) + kk))) / x9).toInt64)))) 13 ((8 * gt) + kk) count) 15 ((8 * gt) + kk) (((mFree g kk) * ((mAn1 g gt kk).1 19 ((8 * gt) + kk))) / x9)).2.2 1111)) 14 ((8 * gt) + kk) (-1)) 14 ((8 * gt) + kk) (nI n)) 8 n (nI kk)) 9 n (((mFree g kk) * ((mAn1 g gt kk).1 19 ((8 * gt) + kk))) / x9)) 10 n ((mClk g 6) + ((iI (iI (iI (iI (iI (iI (iI (iL (mAn1 g gt kk) 5 kk (((mAn1 g gt kk).2.1 5 kk) - (1000 * ((((mFree g kk) * ((mAn1 g gt kk).1 19 ((8 * gt) + kk))) / x9).toInt64)))) 13 ((8 * gt) + kk) count) 15 ((8 * gt) + kk) (((mFree g kk) * ((mAn1 g gt kk).1 19 ((8 * gt) + kk))) / x9)) 16 ((8 * gt) + kk) ((iI (iI (iL (mAn1 g gt kk) 5 kk (((mAn1 g gt kk).2.1 5 kk) - (1000 * ((((mFree g kk) * ((mAn1 g gt kk).1 19 ((8 * gt) + kk))) / x9).toInt64)))) 13 ((8 * gt) + kk) count) 15 ((8 * gt) + kk) (((mFree g kk) * ((mAn1 g gt kk).1 19 ((8 * gt) + kk))) / x9)).2.2 1111)) 14 ((8 * gt) + kk) (-1)) 14 ((8 * gt) + kk) (nI n)) 8 n (nI kk)) 9 n (((mFree g kk) * ((mAn1 g gt kk).1 19 ((8 * gt) + kk))) / x9)).2.2 1111))) 1107 (nI (n + 1))) := by rw [e1]; exact hR.wF
              replace hO : MO S S33 a0 t := by rw [e1]; exact hO.wF
              clear e1
              exact k_vret C hr hlk hW hS hB ⟨hO, by rw [mAnswer, show mGets g gt kk tok = (mFree g kk) * ((mAn1 g gt kk).1 19 ((8 * gt) + kk)) / x9 by rw [mGets, if_neg c_52, if_pos (by rw [← (show x9 = mSumW (mAn1 g gt kk) kk (mClk g 6) 6 by rw [e9w, show j = 6 by omega])]; exact Int32.not_le.mp c_144), ← (show x9 = mSumW (mAn1 g gt kk) kk (mClk g 6) 6 by rw [e9w, show j = 6 by omega])], mAnswerX, if_pos (Int32.not_le.mp c_214)]; exact hR⟩ (Nat.le_refl _) (Nat.le_refl _) dX11_answer_275
        · have q_65 : ¬ (6 ≤ j) := fun z => c_65 ((nI_leI (a := 6) (b := j) (by omega) (by omega)).mpr z)
          refine lv_bipush (v := 8) hx hb dX11_answer_68 (by decide) ?_
          refine lv_iload hx hb dX11_answer_70 (lv_at hl 10 rfl) ?_
          refine lv_imul hx hb dX11_answer_72 ?_
          refine top_i (show 8 * (nI j) = nI (8 * j) from pk_mul 8 j) ?_
          refine lv_iload_n hx hb dX11_answer_73 rfl (lv_at hl 2 rfl) ?_
          refine lv_iadd hx hb dX11_answer_74 ?_
          refine top_i (show (nI (8 * j)) + (nI kk) = nI ((8 * j) + kk) from nI_add (8 * j) kk) ?_
          refine lv_istore (lv' := [(11, .int (nI ((8 * j) + kk))), (0, .ref a0), (1, .int (nI gt)), (2, .int (nI kk)), (3, .int tok), (4, .int count), (5, .int (nI ((8 * gt) + kk))), (6, .int (mClk g 6)), (7, .int (mFree g kk)), (8, .int tok), (9, .int x9), (10, .int (nI j))]) hx hb dX11_answer_75 hl (by decide) rfl (fun ls hl => ?_)
          refine lv_aload_n hx hb dX11_answer_77 rfl (lv_at hl 1 rfl) ?_
          refine g_1117 C hinX11 hW hR.1.1 (mA_17 hR.1) l57 dX11_answer_78 ?_
          refine lv_iload hx hb dX11_answer_81 (lv_at hl 0 rfl) ?_
          refine a_Zload C hW (j := ((8 * j) + kk)) (mK_17 hR.1) (mN_17 hR.1) rfl (by omega) (by omega) dX11_answer_83 ?_
          refine top_i (show aI S3 (t 17) ((8 * j) + kk) = (mAn1 g gt kk).1 17 ((8 * j) + kk) from hR.i 17 ((8 * j) + kk)) ?_
          refine lv_if_eq (tgt := 116) hx hb dX11_answer_84 (by decide) (fun c_84 => ?_) (fun c_84 => ?_)
          · refine lv_iload hx hb dX11_answer_116 (lv_at hl 10 rfl) ?_
            refine lv_istore (lv' := [(9, .int x9), (11, .int (nI ((8 * j) + kk))), (0, .ref a0), (1, .int (nI gt)), (2, .int (nI kk)), (3, .int tok), (4, .int count), (5, .int (nI ((8 * gt) + kk))), (6, .int (mClk g 6)), (7, .int (mFree g kk)), (8, .int tok), (10, .int (nI j))]) hx hb dX11_answer_118 hl (by decide) rfl (fun ls hl => ?_)
            refine lv_iinc (v := nI (j + 1)) (lv' := [(10, .int (nI (j + 1))), (9, .int x9), (11, .int (nI ((8 * j) + kk))), (0, .ref a0), (1, .int (nI gt)), (2, .int (nI kk)), (3, .int tok), (4, .int count), (5, .int (nI ((8 * gt) + kk))), (6, .int (mClk g 6)), (7, .int (mFree g kk)), (8, .int tok)]) hx hb dX11_answer_120 hl (k := 11) rfl (nI_add j 1) (by decide) rfl (fun ls hl => ?_)
            refine lv_goto (tgt := 61) hx hb dX11_answer_123 (by decide) ?_
            exact ih (j + 1) _ ls (by omega) (by omega) (by rw [e9w, mSumW, if_neg (fun z => z.1 c_84)]) (lv_sub hl [3, 4, 5, 6, 7, 8, 9, 10, 11, 1, 0] rfl)
          · refine lv_iload hx hb dX11_answer_87 (lv_at hl 7 rfl) ?_
            refine lv_aload_n hx hb dX11_answer_89 rfl (lv_at hl 1 rfl) ?_
            refine g_1118 C hinX11 hW hR.1.1 (mA_18 hR.1) l61 dX11_answer_90 ?_
            refine lv_iload hx hb dX11_answer_93 (lv_at hl 0 rfl) ?_
            refine a_Iload C hW (j := ((8 * j) + kk)) (mK_18 hR.1) (mN_18 hR.1) rfl (by omega) (by omega) dX11_answer_95 ?_
            refine top_i (show aI S3 (t 18) ((8 * j) + kk) = (mAn1 g gt kk).1 18 ((8 * j) + kk) from hR.i 18 ((8 * j) + kk)) ?_
            refine lv_isub hx hb dX11_answer_96 ?_
            refine lv_sipush (v := 1000) hx hb dX11_answer_97 (by decide) ?_
            refine lv_icmp_ge (tgt := 116) hx hb dX11_answer_100 (by decide) (fun c_100 => ?_) (fun c_100 => ?_)
            · refine lv_iload hx hb dX11_answer_116 (lv_at hl 10 rfl) ?_
              refine lv_istore (lv' := [(9, .int x9), (11, .int (nI ((8 * j) + kk))), (0, .ref a0), (1, .int (nI gt)), (2, .int (nI kk)), (3, .int tok), (4, .int count), (5, .int (nI ((8 * gt) + kk))), (6, .int (mClk g 6)), (7, .int (mFree g kk)), (8, .int tok), (10, .int (nI j))]) hx hb dX11_answer_118 hl (by decide) rfl (fun ls hl => ?_)
              refine lv_iinc (v := nI (j + 1)) (lv' := [(10, .int (nI (j + 1))), (9, .int x9), (11, .int (nI ((8 * j) + kk))), (0, .ref a0), (1, .int (nI gt)), (2, .int (nI kk)), (3, .int tok), (4, .int count), (5, .int (nI ((8 * gt) + kk))), (6, .int (mClk g 6)), (7, .int (mFree g kk)), (8, .int tok)]) hx hb dX11_answer_120 hl (k := 11) rfl (nI_add j 1) (by decide) rfl (fun ls hl => ?_)
              refine lv_goto (tgt := 61) hx hb dX11_answer_123 (by decide) ?_
              exact ih (j + 1) _ ls (by omega) (by omega) (by rw [e9w, mSumW, if_neg (fun z => absurd z.2 (Int32.not_lt.mpr c_100))]) (lv_sub hl [3, 4, 5, 6, 7, 8, 9, 10, 11, 1, 0] rfl)
            · refine lv_iload hx hb dX11_answer_103 (lv_at hl 10 rfl) ?_
              refine lv_aload_n hx hb dX11_answer_105 rfl (lv_at hl 1 rfl) ?_
              refine g_1119 C hinX11 hW hR.1.1 (mA_19 hR.1) l64 dX11_answer_106 ?_
              refine lv_iload hx hb dX11_answer_109 (lv_at hl 0 rfl) ?_
              refine a_Iload C hW (j := ((8 * j) + kk)) (mK_19 hR.1) (mN_19 hR.1) rfl (by omega) (by omega) dX11_answer_111 ?_
              refine top_i (show aI S3 (t 19) ((8 * j) + kk) = (mAn1 g gt kk).1 19 ((8 * j) + kk) from hR.i 19 ((8 * j) + kk)) ?_
              refine lv_iadd hx hb dX11_answer_112 ?_
              refine lv_goto (tgt := 118) hx hb dX11_answer_113 (by decide) ?_
              refine lv_istore (lv' := [(9, .int (x9 + ((mAn1 g gt kk).1 19 ((8 * j) + kk)))), (11, .int (nI ((8 * j) + kk))), (0, .ref a0), (1, .int (nI gt)), (2, .int (nI kk)), (3, .int tok), (4, .int count), (5, .int (nI ((8 * gt) + kk))), (6, .int (mClk g 6)), (7, .int (mFree g kk)), (8, .int tok), (10, .int (nI j))]) hx hb dX11_answer_118 hl (by decide) rfl (fun ls hl => ?_)
              refine lv_iinc (v := nI (j + 1)) (lv' := [(10, .int (nI (j + 1))), (9, .int (x9 + ((mAn1 g gt kk).1 19 ((8 * j) + kk)))), (11, .int (nI ((8 * j) + kk))), (0, .ref a0), (1, .int (nI gt)), (2, .int (nI kk)), (3, .int tok), (4, .int count), (5, .int (nI ((8 * gt) + kk))), (6, .int (mClk g 6)), (7, .int (mFree g kk)), (8, .int tok)]) hx hb dX11_answer_120 hl (k := 11) rfl (nI_add j 1) (by decide) rfl (fun ls hl => ?_)
              refine lv_goto (tgt := 61) hx hb dX11_answer_123 (by decide) ?_
              exact ih (j + 1) _ ls (by omega) (by omega) (by rw [e9w, mSumW, if_pos ⟨c_84, Int32.not_le.mp c_100⟩]) (lv_sub hl [3, 4, 5, 6, 7, 8, 9, 10, 11, 1, 0] rfl)
    exact lp (6 - 0 + 1) 0 0 ls (by omega) (by omega) rfl (lv_sub hl [6, 7, 8, 9, 10, 5, 4, 3, 2, 1, 0] rfl)
