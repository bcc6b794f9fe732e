/-- the loans whose end has come are over -/
def mZero (g : MS) (x : Int32) : Nat → MS
  | 0 => g
  | h + 1 => if (mZero g x h).1 10 h = x then iI (mZero g x h) 9 h 0 else mZero g x h
theorem mZero_f (g : MS) (x : Int32) (h : Nat) : (mZero g x h).2.2 = g.2.2 := by
  induction h with
  | zero => rfl
  | succ h ih => rw [mZero]; split <;> exact ih
def mStep (g : MS) (n : Nat) (tm to x : Int32) : MS := mFillAll (mZero (mFillAll g n (x - 1 - tm) 8) x n) n 1 8
theorem mStep_f (g : MS) (n : Nat) (tm to x : Int32) : (mStep g n tm to x).2.2 = g.2.2 := ((mFillAll_f _ _ _ _).trans (mZero_f _ _ _)).trans (mFillAll_f _ _ _ _)
def mRootD (n : Nat) (to : Int32) : Nat → MS → Int32 → MS
  | 0, g, _ => g
  | d + 1, g, tm =>
    if tm < to then
      if mNext (g.1 9) (g.1 10) tm n < 0 ∨ to < mNext (g.1 9) (g.1 10) tm n then mFillAll g n (to - tm) 8
      else mRootD n to d (mStep g n tm to (mNext (g.1 9) (g.1 10) tm n)) (mNext (g.1 9) (g.1 10) tm n)
    else g
def mRoot (g : MS) (n : Nat) (tm to : Int32) : MS := mRootD n to ((to.toInt - tm.toInt).toNat + 1) g tm
theorem mNext_gt (lt le : Nat → Int32) (tm : Int32) (n : Nat) : mNext lt le tm n = -1 ∨ tm < mNext lt le tm n := by
  induction n with
  | zero => exact Or.inl rfl
  | succ n ih =>
    rw [mNext]
    split
    · rename_i h; exact Or.inr h.2.1
    · exact ih
theorem mRootD_done (n : Nat) (to : Int32) (d : Nat) (g : MS) : mRootD n to d g to = g := by
  cases d with
  | zero => rfl
  | succ d => rw [mRootD, if_neg Int32.lt_irrefl]
set_option maxRecDepth 100000 in
set_option maxHeartbeats 4000000 in
theorem c_X11_rootGoesOn {l : Launch} {D : va_G} {cy : Nat → ClassId} {B : Nat} {s0 : State} {S : PS} {a0 : Nat} {t : Nat → Nat} {g : MS} {n : Nat} {tm to : Int32} (hR : MR S a0 t g) (hn : g.2.2 1107 = nI n) (hn3 : n ≤ 300) : KV l yX11_rootGoesOn wsX11_rootGoesOn ({ frames := 3, cells := 0, slots := 0, locals := 72 }) D cy B s0 [.ref a0, .int tm, .int to] S (fun S2 => MO S S2 a0 t ∧ MR S2 a0 t (mRoot g n tm to)) 0 0 := by
  refine k_body (own := RX11) (cc := cX11_rootGoesOn) (maxL := 6) (ret := none) rfl (by decide) rfl (Nat.le_of_ble_eq_true rfl) ?_
  intro p e s m below meth c C hml hr hlk hnm hB hW ls hl
  obtain ⟨hx, hb, hts, hown, hK, hEn⟩ := id C
  have hS : va_S (Aw B) s.heap s.heap [] := va_S.rf
  have hinX11 : ∀ w ∈ wsX110, w ∈ wsX11_rootGoesOn := by decide +kernel
  have l32 : Cond.fieldLink RX11 32 "LeaseGatesModel" "loanTokens" "[I" ∈ wsX11_rootGoesOn := by decide +kernel
  have l35 : Cond.fieldLink RX11 35 "LeaseGatesModel" "loanEnd" "[I" ∈ wsX11_rootGoesOn := by decide +kernel
  have l111 : Cond.fieldLink RX11 111 "LeaseGatesModel" "loans" "I" ∈ wsX11_rootGoesOn := by decide +kernel
  have hl : lv_has ls 6 [(0, .ref a0), (1, .int tm), (2, .int to)] := hl
  have hO : MO S S a0 t := MO.rf
  refine lv_iload_n hx hb dX11_rootGoesOn_0 rfl (lv_at hl 1 rfl) ?_
  refine lv_istore_n (lv' := [(3, .int tm), (0, .ref a0), (1, .int tm), (2, .int to)]) hx hb dX11_rootGoesOn_1 rfl hl (by decide) rfl (fun ls hl => ?_)
  have lp : ∀ (d_lp : Nat) (x3 : Int32) (gk : MS) (Sk : PS) (H : Heap) (locs : List Loc) (ls : Array Slot), (to.toInt - x3.toInt).toNat < d_lp → MR Sk a0 t gk → MO S Sk a0 t → mRootD n to (d_lp) gk x3 = mRoot g n tm to → gk.2.2 1107 = nI n → PW D cy B Sk H → va_S (Aw B) s.heap H locs → lv_has ls 6 [(0, .ref a0), (1, .int tm), (2, .int to), (3, .int x3)] → W p l e ({ frames := 3, cells := 0, slots := 0, locals := 72 }) s m [.ref a0, .int tm, .int to].toArray below meth c H locs 0 0 (MQ below (va_Qv (fun S2 => MO S S2 a0 t ∧ MR S2 a0 t (mRoot g n tm to)) (PreW D cy B s0) (Aw B)) [.ref a0, .int tm, .int to].toArray s 0 0 (Aw B)) (F0 m 2 ls []) := by
    intro d_lp
    induction d_lp with
    | zero => intro x3 gk Sk H locs ls hd; exact absurd hd (Nat.not_lt_zero _)
    | succ d_lp ih_lp =>
      intro x3 gk Sk H locs ls hd hR hO hE hn hW hS hl
      refine lv_iload_n hx hb dX11_rootGoesOn_2 rfl (lv_at hl 3 rfl) ?_
      refine lv_iload_n hx hb dX11_rootGoesOn_3 rfl (lv_at hl 2 rfl) ?_
      refine lv_icmp_ge (tgt := 96) hx hb dX11_rootGoesOn_4 (by decide) (fun c_4 => ?_) (fun c_4 => ?_)
      · exact k_vret C hr hlk hW hS hB ⟨hO, by rw [← hE, mRootD, if_neg (Int32.not_lt.mpr c_4)]; exact hR⟩ (Nat.le_refl _) (Nat.le_refl _) dX11_rootGoesOn_96
      · refine lv_aload_n hx hb dX11_rootGoesOn_7 rfl (lv_at hl 0 rfl) ?_
        refine lv_iload_n hx hb dX11_rootGoesOn_8 rfl (lv_at hl 3 rfl) ?_
        refine k_callVi (As := [.int x3]) (rest := []) C hml (c_X11_nextEnd hR hn hn3) (cwV 1 hts gX11_rootGoesOn_X11_nextEnd rfl rfl rfl (by decide +kernel) ⟨by decide, by decide⟩) hW hS hB (hR.1.1).1 (pAt_11 (hR.1.1).2) rfl rfl hl.1 rfl (Nat.le_of_ble_eq_true rfl) dX11_rootGoesOn_9 ⟨Nat.le_of_ble_eq_true rfl, Nat.le_of_ble_eq_true rfl⟩ (fun r9 S1 H locs hp9 hW hS => ?_)
        obtain ⟨e8, e9⟩ := hp9
        rw [e8] at hW
        subst e9
        refine lv_istore (lv' := [(4, .int (mNext (gk.1 9) (gk.1 10) x3 n)), (0, .ref a0), (1, .int tm), (2, .int to), (3, .int x3)]) hx hb dX11_rootGoesOn_12 hl (by decide) rfl (fun ls hl => ?_)
        refine lv_iload hx hb dX11_rootGoesOn_14 (lv_at hl 0 rfl) ?_
        refine lv_if_lt (tgt := 25) hx hb dX11_rootGoesOn_16 (by decide) (fun c_16 => ?_) (fun c_16 => ?_)
        · refine lv_aload_n hx hb dX11_rootGoesOn_25 rfl (lv_at hl 1 rfl) ?_
          refine lv_iload_n hx hb dX11_rootGoesOn_26 rfl (lv_at hl 3 rfl) ?_
          refine lv_iload_n hx hb dX11_rootGoesOn_27 rfl (lv_at hl 4 rfl) ?_
          refine lv_isub hx hb dX11_rootGoesOn_28 ?_
          refine k_callVv (As := [.int (to - x3)]) (rest := []) C hml (c_X11_fillAll hR hn hn3) (cwV 1 hts gX11_rootGoesOn_X11_fillAll rfl rfl rfl (by decide +kernel) ⟨by decide, by decide⟩) hW hS hB (hR.1.1).1 (pAt_11 (hR.1.1).2) rfl rfl hl.1 rfl (Nat.le_of_ble_eq_true rfl) dX11_rootGoesOn_29 ⟨Nat.le_of_ble_eq_true rfl, Nat.le_of_ble_eq_true rfl⟩ (fun S2 H locs hp9 hW hS => ?_)
          obtain ⟨hO9, hR⟩ := hp9
          replace hO := hO.tr hO9
          clear hO9
          refine lv_iload_n hx hb dX11_rootGoesOn_32 rfl (lv_at hl 3 rfl) ?_
          refine lv_istore_n (lv' := [(3, .int to), (4, .int (mNext (gk.1 9) (gk.1 10) x3 n)), (0, .ref a0), (1, .int tm), (2, .int to)]) hx hb dX11_rootGoesOn_33 rfl hl (by decide) rfl (fun ls hl => ?_)
          refine lv_goto (tgt := 93) hx hb dX11_rootGoesOn_34 (by decide) ?_
          refine lv_goto (tgt := 2) hx hb dX11_rootGoesOn_93 (by decide) ?_
          exact ih_lp to _ _ _ _ ls (by rw [Int32.le_iff_toInt_le] at c_4; omega) hR hO (by rw [← hE, mRootD, if_pos (Int32.not_le.mp c_4), if_pos (Or.inl c_16)]; exact mRootD_done n to _ _) ((congrFun (mFillAll_f _ _ _ _) 1107).trans hn) hW hS (lv_sub hl [2, 3, 4, 0] rfl)
        · refine lv_iload hx hb dX11_rootGoesOn_19 (lv_at hl 0 rfl) ?_
          refine lv_iload_n hx hb dX11_rootGoesOn_21 rfl (lv_at hl 3 rfl) ?_
          refine lv_icmp_le (tgt := 37) hx hb dX11_rootGoesOn_22 (by decide) (fun c_22 => ?_) (fun c_22 => ?_)
          · have hne9 : ¬ ((mNext (gk.1 9) (gk.1 10) x3 n) < 0 ∨ to < (mNext (gk.1 9) (gk.1 10) x3 n)) := fun z => z.elim (fun y => c_16 y) (fun y => absurd c_22 (Int32.not_le.mpr y))
            have hms9 : (to.toInt - (mNext (gk.1 9) (gk.1 10) x3 n).toInt).toNat < d_lp := by
              rcases mNext_gt (gk.1 9) (gk.1 10) x3 n with z | z
              · exact absurd (by rw [z]; decide) c_16
              · have z2 := c_22
                rw [Int32.lt_iff_toInt_lt] at z
                rw [Int32.le_iff_toInt_le] at z2 c_4
                omega
            refine lv_aload_n hx hb dX11_rootGoesOn_37 rfl (lv_at hl 1 rfl) ?_
            refine lv_iload hx hb dX11_rootGoesOn_38 (lv_at hl 0 rfl) ?_
            refine lv_iconst (v := 1) hx hb dX11_rootGoesOn_40 (by decide) ?_
            refine lv_isub hx hb dX11_rootGoesOn_41 ?_
            refine lv_iload_n hx hb dX11_rootGoesOn_42 rfl (lv_at hl 4 rfl) ?_
            refine lv_isub hx hb dX11_rootGoesOn_43 ?_
            refine k_callVv (As := [.int (((mNext (gk.1 9) (gk.1 10) x3 n) - 1) - x3)]) (rest := []) C hml (c_X11_fillAll hR hn hn3) (cwV 1 hts gX11_rootGoesOn_X11_fillAll rfl rfl rfl (by decide +kernel) ⟨by decide, by decide⟩) hW hS hB (hR.1.1).1 (pAt_11 (hR.1.1).2) rfl rfl hl.1 rfl (Nat.le_of_ble_eq_true rfl) dX11_rootGoesOn_44 ⟨Nat.le_of_ble_eq_true rfl, Nat.le_of_ble_eq_true rfl⟩ (fun S3 H locs hp9 hW hS => ?_)
            obtain ⟨hO9, hR⟩ := hp9
            replace hO := hO.tr hO9
            clear hO9
            replace hn := (congrFun (mFillAll_f gk n ((mNext (gk.1 9) (gk.1 10) x3 n) - 1 - x3) 8) 1107).trans hn
            refine lv_iload hx hb dX11_rootGoesOn_47 (lv_at hl 0 rfl) ?_
            refine lv_istore_n (lv' := [(3, .int (mNext (gk.1 9) (gk.1 10) x3 n)), (4, .int (mNext (gk.1 9) (gk.1 10) x3 n)), (0, .ref a0), (1, .int tm), (2, .int to)]) hx hb dX11_rootGoesOn_49 rfl hl (by decide) rfl (fun ls hl => ?_)
            refine lv_iconst (v := 0) hx hb dX11_rootGoesOn_50 (by decide) ?_
            refine lv_istore (lv' := [(5, .int 0), (3, .int (mNext (gk.1 9) (gk.1 10) x3 n)), (4, .int (mNext (gk.1 9) (gk.1 10) x3 n)), (0, .ref a0), (1, .int tm), (2, .int to)]) hx hb dX11_rootGoesOn_51 hl (by decide) rfl (fun ls hl => ?_)
            have lq : ∀ (d_lq j : Nat) (Sj : PS) (H : Heap) (locs : List Loc) (ls : Array Slot), j ≤ n → n - j < d_lq → MR Sj a0 t (mZero (mFillAll gk n ((mNext (gk.1 9) (gk.1 10) x3 n) - 1 - x3) 8) (mNext (gk.1 9) (gk.1 10) x3 n) j) → MO S Sj a0 t → PW D cy B Sj H → va_S (Aw B) s.heap H locs → lv_has ls 6 [(0, .ref a0), (1, .int tm), (2, .int to), (3, .int (mNext (gk.1 9) (gk.1 10) x3 n)), (4, .int (mNext (gk.1 9) (gk.1 10) x3 n)), (5, .int (nI j))] → W p l e ({ frames := 3, cells := 0, slots := 0, locals := 72 }) s m [.ref a0, .int tm, .int to].toArray below meth c H locs 0 0 (MQ below (va_Qv (fun S2 => MO S S2 a0 t ∧ MR S2 a0 t (mRoot g n tm to)) (PreW D cy B s0) (Aw B)) [.ref a0, .int tm, .int to].toArray s 0 0 (Aw B)) (F0 m 53 ls []) := by
              intro d_lq
              induction d_lq with
              | zero => intro j  Sj H locs ls _ hd; exact absurd hd (Nat.not_lt_zero _)
              | succ d_lq ih_lq =>
                intro j  Sj H locs ls hk hd hR hO hW hS hl
                replace hn := (congrFun (mZero_f (mFillAll gk n ((mNext (gk.1 9) (gk.1 10) x3 n) - 1 - x3) 8) (mNext (gk.1 9) (gk.1 10) x3 n) j) 1107).trans hn
                refine lv_iload hx hb dX11_rootGoesOn_53 (lv_at hl 5 rfl) ?_
                refine lv_aload_n hx hb dX11_rootGoesOn_55 rfl (lv_at hl 0 rfl) ?_
                refine g_1107 C hinX11 hW hR.1.1 l111 dX11_rootGoesOn_56 ?_
                refine top_i (show fI Sj 1107 a0 = nI n from (hR.f 1107).trans hn) ?_
                refine lv_icmp_ge (tgt := 88) hx hb dX11_rootGoesOn_59 (by decide) (fun c_59 => ?_) (fun c_59 => ?_)
                · have q_59 : n ≤ j := (nI_leI (a := n) (b := j) (by omega) (by omega)).mp c_59
                  rw [show j = n by omega] at hR hn
                  refine lv_aload_n hx hb dX11_rootGoesOn_88 rfl (lv_at hl 0 rfl) ?_
                  refine lv_iconst (v := 1) hx hb dX11_rootGoesOn_89 (by decide) ?_
                  refine k_callVv (As := [.int 1]) (rest := []) C hml (c_X11_fillAll hR hn hn3) (cwV 1 hts gX11_rootGoesOn_X11_fillAll rfl rfl rfl (by decide +kernel) ⟨by decide, by decide⟩) hW hS hB (hR.1.1).1 (pAt_11 (hR.1.1).2) rfl rfl hl.1 rfl (Nat.le_of_ble_eq_true rfl) dX11_rootGoesOn_90 ⟨Nat.le_of_ble_eq_true rfl, Nat.le_of_ble_eq_true rfl⟩ (fun S4 H locs hp9 hW hS => ?_)
                  obtain ⟨hO9, hR⟩ := hp9
                  replace hO := hO.tr hO9
                  clear hO9
                  refine lv_goto (tgt := 2) hx hb dX11_rootGoesOn_93 (by decide) ?_
                  exact ih_lp _ _ _ _ _ ls hms9 hR hO (by rw [← hE, mRootD, if_pos (Int32.not_le.mp c_4), if_neg hne9]; rfl) ((congrFun (mFillAll_f _ _ _ _) 1107).trans hn) hW hS (lv_sub hl [0, 1, 2, 3] rfl)
                · have q_59 : ¬ (n ≤ j) := fun z => c_59 ((nI_leI (a := n) (b := j) (by omega) (by omega)).mpr z)
                  refine lv_aload_n hx hb dX11_rootGoesOn_62 rfl (lv_at hl 0 rfl) ?_
                  refine g_1110 C hinX11 hW hR.1.1 (mA_10 hR.1) l35 dX11_rootGoesOn_63 ?_
                  refine lv_iload hx hb dX11_rootGoesOn_66 (lv_at hl 5 rfl) ?_
                  refine a_Iload C hW (j := j) (mK_10 hR.1) (mN_10 hR.1) rfl (by omega) (by omega) dX11_rootGoesOn_68 ?_
                  refine top_i (show aI Sj (t 10) j = (mZero (mFillAll gk n ((mNext (gk.1 9) (gk.1 10) x3 n) - 1 - x3) 8) (mNext (gk.1 9) (gk.1 10) x3 n) j).1 10 j from hR.i 10 j) ?_
                  refine lv_iload hx hb dX11_rootGoesOn_69 (lv_at hl 4 rfl) ?_
                  refine lv_icmp_ne (tgt := 82) hx hb dX11_rootGoesOn_71 (by decide) (fun c_71 => ?_) (fun c_71 => ?_)
                  · refine lv_iinc (v := nI (j + 1)) (lv' := [(5, .int (nI (j + 1))), (0, .ref a0), (1, .int tm), (2, .int to), (3, .int (mNext (gk.1 9) (gk.1 10) x3 n)), (4, .int (mNext (gk.1 9) (gk.1 10) x3 n))]) hx hb dX11_rootGoesOn_82 hl (k := 5) rfl (nI_add j 1) (by decide) rfl (fun ls hl => ?_)
                    refine lv_goto (tgt := 53) hx hb dX11_rootGoesOn_85 (by decide) ?_
                    exact ih_lq (j + 1)  _ _ _ ls (by omega) (by omega) (by rw [mZero, if_neg c_71]; exact hR) hO hW hS (lv_sub hl [1, 2, 3, 4, 5, 0] rfl)
                  · refine lv_aload_n hx hb dX11_rootGoesOn_74 rfl (lv_at hl 0 rfl) ?_
                    refine g_1109 C hinX11 hW hR.1.1 (mA_9 hR.1) l32 dX11_rootGoesOn_75 ?_
                    refine lv_iload hx hb dX11_rootGoesOn_78 (lv_at hl 5 rfl) ?_
                    refine lv_iconst (v := 0) hx hb dX11_rootGoesOn_80 (by decide) ?_
                    refine a_Istore C hW hS (j := j) (mK_9 hR.1) (mN_9 hR.1) rfl (by omega) (by omega) dX11_rootGoesOn_81 (fun S5 H locs e1 hW hS => ?_)
                    have hR : MR S5 a0 t (iI (mZero (mFillAll gk n ((mNext (gk.1 9) (gk.1 10) x3 n) - 1 - x3) 8) (mNext (gk.1 9) (gk.1 10) x3 n) j) 9 j 0) := by rw [e1]; exact hR.wI
                    replace hO : MO S S5 a0 t := by rw [e1]; exact hO.wI
                    clear e1
                    refine lv_iinc (v := nI (j + 1)) (lv' := [(5, .int (nI (j + 1))), (0, .ref a0), (1, .int tm), (2, .int to), (3, .int (mNext (gk.1 9) (gk.1 10) x3 n)), (4, .int (mNext (gk.1 9) (gk.1 10) x3 n))]) hx hb dX11_rootGoesOn_82 hl (k := 5) rfl (nI_add j 1) (by decide) rfl (fun ls hl => ?_)
                    refine lv_goto (tgt := 53) hx hb dX11_rootGoesOn_85 (by decide) ?_
                    exact ih_lq (j + 1)  _ _ _ ls (by omega) (by omega) (by rw [mZero, if_pos c_71]; exact hR) hO hW hS (lv_sub hl [1, 2, 3, 4, 5, 0] rfl)
            exact lq (n - 0 + 1) 0  _ _ _ ls (by omega) (by omega) hR hO hW hS (lv_sub hl [3, 4, 5, 1, 2, 0] rfl)
          · refine lv_aload_n hx hb dX11_rootGoesOn_25 rfl (lv_at hl 1 rfl) ?_
            refine lv_iload_n hx hb dX11_rootGoesOn_26 rfl (lv_at hl 3 rfl) ?_
            refine lv_iload_n hx hb dX11_rootGoesOn_27 rfl (lv_at hl 4 rfl) ?_
            refine lv_isub hx hb dX11_rootGoesOn_28 ?_
            refine k_callVv (As := [.int (to - x3)]) (rest := []) C hml (c_X11_fillAll hR hn hn3) (cwV 1 hts gX11_rootGoesOn_X11_fillAll rfl rfl rfl (by decide +kernel) ⟨by decide, by decide⟩) hW hS hB (hR.1.1).1 (pAt_11 (hR.1.1).2) rfl rfl hl.1 rfl (Nat.le_of_ble_eq_true rfl) dX11_rootGoesOn_29 ⟨Nat.le_of_ble_eq_true rfl, Nat.le_of_ble_eq_true rfl⟩ (fun S6 H locs hp9 hW hS => ?_)
            obtain ⟨hO9, hR⟩ := hp9
            replace hO := hO.tr hO9
            clear hO9
            refine lv_iload_n hx hb dX11_rootGoesOn_32 rfl (lv_at hl 3 rfl) ?_
            refine lv_istore_n (lv' := [(3, .int to), (4, .int (mNext (gk.1 9) (gk.1 10) x3 n)), (0, .ref a0), (1, .int tm), (2, .int to)]) hx hb dX11_rootGoesOn_33 rfl hl (by decide) rfl (fun ls hl => ?_)
            refine lv_goto (tgt := 93) hx hb dX11_rootGoesOn_34 (by decide) ?_
            refine lv_goto (tgt := 2) hx hb dX11_rootGoesOn_93 (by decide) ?_
            exact ih_lp to _ _ _ _ ls (by rw [Int32.le_iff_toInt_le] at c_4; omega) hR hO (by rw [← hE, mRootD, if_pos (Int32.not_le.mp c_4), if_pos (Or.inr (Int32.not_le.mp c_22))]; exact mRootD_done n to _ _) ((congrFun (mFillAll_f _ _ _ _) 1107).trans hn) hW hS (lv_sub hl [2, 3, 4, 0] rfl)
  exact lp ((to.toInt - tm.toInt).toNat + 1) tm g _ _ _ ls (Nat.lt_succ_self _) hR hO rfl hn hW hS (lv_sub hl [1, 2, 3, 0] rfl)
def mGone (g : MS) (x : Int32) : Nat → MS
  | 0 => g
  | k + 1 => iL (mGone g x k) 1 k ((mGone g x k).2.1 1 k + x.toInt64 * ((mGone g x k).1 2 k).toInt64)
theorem mGone_f (g : MS) (x : Int32) (k : Nat) : (mGone g x k).2.2 = g.2.2 := by
  induction k with
  | zero => rfl
  | succ k ih => exact ih
def mTick (g : MS) (n : Nat) (p0 : Int32) : MS := if 1 ≤ p0 ∧ p0 ≤ 5000 then mRoot (mGone (iF g 1100 0) p0 7) n (mClk g 6) (mClk (mGone (iF g 1100 0) p0 7) 6) else iF g 1100 1
set_option maxRecDepth 100000 in
set_option maxHeartbeats 4000000 in
theorem c_X11_tick {l : Launch} {D : va_G} {cy : Nat → ClassId} {B : Nat} {s0 : State} {S : PS} {a0 : Nat} {t : Nat → Nat} {g : MS} {n : Nat} {p0 : Int32} (hR : MR S a0 t g) (hn : g.2.2 1107 = nI n) (hn3 : n ≤ 300) : KV l yX11_tick wsX11_tick ({ frames := 4, cells := 0, slots := 0, locals := 97 }) D cy B s0 [.ref a0, .int p0] S (fun S2 => MO S S2 a0 t ∧ MR S2 a0 t (mTick g n p0)) 0 0 := by
  refine k_body (own := RX11) (cc := cX11_tick) (maxL := 4) (ret := none) rfl (by decide) rfl (Nat.le_of_ble_eq_true rfl) ?_
  intro p e s m below meth c C hml hr hlk hnm hB hW ls hl
  obtain ⟨hx, hb, hts, hown, hK, hEn⟩ := id C
  have hS : va_S (Aw B) s.heap s.heap [] := va_S.rf
  have hinX11 : ∀ w ∈ wsX110, w ∈ wsX11_tick := by decide +kernel
  have l7 : Cond.fieldLink RX11 7 "LeaseGatesModel" "gone" "[J" ∈ wsX11_tick := by decide +kernel
  have l13 : Cond.fieldLink RX11 13 "LeaseGatesModel" "speeds" "[I" ∈ wsX11_tick := by decide +kernel
  have hl : lv_has ls 4 [(0, .ref a0), (1, .int p0)] := hl
  have hO : MO S S a0 t := MO.rf
  refine lv_aload_n hx hb dX11_tick_0 rfl (lv_at hl 0 rfl) ?_
  refine lv_iload_n hx hb dX11_tick_1 rfl (lv_at hl 1 rfl) ?_
  refine lv_iconst (v := 1) hx hb dX11_tick_2 (by decide) ?_
  refine lv_sipush (v := 5000) hx hb dX11_tick_3 (by decide) ?_
  refine k_callSi (As := [.int p0, .int 1, .int 5000]) (rest := [.ref a0]) C hml (c_X11_isIn) (va_cwS 3 hts gX11_tick_X11_isIn rfl rfl rfl (by decide +kernel) ⟨by decide, by decide⟩) hW hS hB rfl hl.1 rfl (Nat.le_of_ble_eq_true rfl) dX11_tick_6 ⟨Nat.le_of_ble_eq_true rfl, Nat.le_of_ble_eq_true rfl⟩ (fun r9 S1 H locs hp9 hW hS => ?_)
  obtain ⟨e8, e9⟩ := hp9
  rw [e8] at hW
  subst e9
  refine lv_if_eq (tgt := 16) hx hb dX11_tick_9 (by decide) (fun c_9 => ?_) (fun c_9 => ?_)
  · have q_9 : ¬ (1 ≤ p0 ∧ p0 ≤ 5000) := ite0.mp c_9
    refine lv_iconst (v := 1) hx hb dX11_tick_16 (by decide) ?_
    refine k_callVi (As := [.int 1]) (rest := []) C hml (c_X11_refused hR) (cwV 1 hts gX11_tick_X11_refused rfl rfl rfl (by decide +kernel) ⟨by decide, by decide⟩) hW hS hB (hR.1.1).1 (pAt_11 (hR.1.1).2) rfl rfl hl.1 rfl (Nat.le_of_ble_eq_true rfl) dX11_tick_17 ⟨Nat.le_of_ble_eq_true rfl, Nat.le_of_ble_eq_true rfl⟩ (fun r9 S2 H locs hp9 hW hS => ?_)
    obtain ⟨hO9, hR, e9⟩ := hp9
    replace hO := hO.tr hO9
    obtain rfl : r9 = 1 := e9.trans (by decide)
    clear hO9 e9
    refine lv_if_eq (tgt := 24) hx hb dX11_tick_20 (by decide) (fun c9 => absurd c9 (by decide)) (fun c9 => ?_)
    exact k_vret C hr hlk hW hS hB ⟨hO, by rw [mTick, if_neg q_9]; exact hR⟩ (Nat.le_refl _) (Nat.le_refl _) dX11_tick_23
  · have q_9 : (1 ≤ p0 ∧ p0 ≤ 5000) := ite1.mp c_9
    refine lv_iconst (v := 0) hx hb dX11_tick_12 (by decide) ?_
    refine lv_goto (tgt := 17) hx hb dX11_tick_13 (by decide) ?_
    refine k_callVi (As := [.int 0]) (rest := []) C hml (c_X11_refused hR) (cwV 1 hts gX11_tick_X11_refused rfl rfl rfl (by decide +kernel) ⟨by decide, by decide⟩) hW hS hB (hR.1.1).1 (pAt_11 (hR.1.1).2) rfl rfl hl.1 rfl (Nat.le_of_ble_eq_true rfl) dX11_tick_17 ⟨Nat.le_of_ble_eq_true rfl, Nat.le_of_ble_eq_true rfl⟩ (fun r9 S3 H locs hp9 hW hS => ?_)
    obtain ⟨hO9, hR, e9⟩ := hp9
    replace hO := hO.tr hO9
    obtain rfl : r9 = 0 := e9.trans (by decide)
    clear hO9 e9
    refine lv_if_eq (tgt := 24) hx hb dX11_tick_20 (by decide) (fun c9 => ?_) (fun c9 => absurd c9 (by decide))
    refine lv_aload_n hx hb dX11_tick_24 rfl (lv_at hl 0 rfl) ?_
    refine lv_bipush (v := 6) hx hb dX11_tick_25 (by decide) ?_
    refine k_callVi (As := [.int 6]) (rest := []) C hml (c_X11_clockOf (k := 6) hR (by omega)) (cwV 1 hts gX11_tick_X11_clockOf rfl rfl rfl (by decide +kernel) ⟨by decide, by decide⟩) hW hS hB (hR.1.1).1 (pAt_11 (hR.1.1).2) rfl rfl hl.1 rfl (Nat.le_of_ble_eq_true rfl) dX11_tick_27 ⟨Nat.le_of_ble_eq_true rfl, Nat.le_of_ble_eq_true rfl⟩ (fun r9 S4 H locs hp9 hW hS => ?_)
    obtain ⟨e8, e9⟩ := hp9
    rw [e8] at hW
    subst e9
    refine lv_istore_n (lv' := [(2, .int (mClk (iF g 1100 0) 6)), (0, .ref a0), (1, .int p0)]) hx hb dX11_tick_30 rfl hl (by decide) rfl (fun ls hl => ?_)
    refine lv_iconst (v := 0) hx hb dX11_tick_31 (by decide) ?_
    refine lv_istore_n (lv' := [(3, .int 0), (2, .int (mClk (iF g 1100 0) 6)), (0, .ref a0), (1, .int p0)]) hx hb dX11_tick_32 rfl hl (by decide) rfl (fun ls hl => ?_)
    have lp : ∀ (d k : Nat) (Sk : PS) (H : Heap) (locs : List Loc) (ls : Array Slot), k ≤ 7 → 7 - k < d → MR Sk a0 t (mGone (iF g 1100 0) p0 k) → MO S Sk a0 t → PW D cy B Sk H → va_S (Aw B) s.heap H locs → lv_has ls 4 [(0, .ref a0), (1, .int p0), (2, .int (mClk g 6)), (3, .int (nI k))] → W p l e ({ frames := 4, cells := 0, slots := 0, locals := 97 }) s m [.ref a0, .int p0].toArray below meth c H locs 0 0 (MQ below (va_Qv (fun S2 => MO S S2 a0 t ∧ MR S2 a0 t (mTick g n p0)) (PreW D cy B s0) (Aw B)) [.ref a0, .int p0].toArray s 0 0 (Aw B)) (F0 m 33 ls []) := by
      intro d
      induction d with
      | zero => intro k  Sk H locs ls _ hd; exact absurd hd (Nat.not_lt_zero _)
      | succ d ih =>
        intro k  Sk H locs ls hk hd hR hO hW hS hl
        refine lv_iload_n hx hb dX11_tick_33 rfl (lv_at hl 3 rfl) ?_
        refine lv_bipush (v := 7) hx hb dX11_tick_34 (by decide) ?_
        refine lv_icmp_ge (tgt := 68) hx hb dX11_tick_36 (by decide) (fun c_36 => ?_) (fun c_36 => ?_)
        · have q_36 : 7 ≤ k := (nI_leI (a := 7) (b := k) (by omega) (by omega)).mp c_36
          rw [show k = 7 by omega] at hR
          replace hn := (congrFun (mGone_f (iF g 1100 0) p0 7) 1107).trans hn
          refine lv_aload_n hx hb dX11_tick_68 rfl (lv_at hl 0 rfl) ?_
          refine lv_iload_n hx hb dX11_tick_69 rfl (lv_at hl 2 rfl) ?_
          refine lv_aload_n hx hb dX11_tick_70 rfl (lv_at hl 0 rfl) ?_
          refine lv_bipush (v := 6) hx hb dX11_tick_71 (by decide) ?_
          refine k_callVi (As := [.int 6]) (rest := [.int (mClk g 6), .ref a0]) C hml (c_X11_clockOf (k := 6) hR (by omega)) (cwV 1 hts gX11_tick_X11_clockOf rfl rfl rfl (by decide +kernel) ⟨by decide, by decide⟩) hW hS hB (hR.1.1).1 (pAt_11 (hR.1.1).2) rfl rfl hl.1 rfl (Nat.le_of_ble_eq_true rfl) dX11_tick_73 ⟨Nat.le_of_ble_eq_true rfl, Nat.le_of_ble_eq_true rfl⟩ (fun r9 S5 H locs hp9 hW hS => ?_)
          obtain ⟨e8, e9⟩ := hp9
          rw [e8] at hW
          subst e9
          refine k_callVv (As := [.int (mClk g 6), .int (mClk (mGone (iF g 1100 0) p0 7) 6)]) (rest := []) C hml (c_X11_rootGoesOn hR hn hn3) (cwV 2 hts gX11_tick_X11_rootGoesOn rfl rfl rfl (by decide +kernel) ⟨by decide, by decide⟩) hW hS hB (hR.1.1).1 (pAt_11 (hR.1.1).2) rfl rfl hl.1 rfl (Nat.le_of_ble_eq_true rfl) dX11_tick_76 ⟨Nat.le_of_ble_eq_true rfl, Nat.le_of_ble_eq_true rfl⟩ (fun S6 H locs hp9 hW hS => ?_)
          obtain ⟨hO9, hR⟩ := hp9
          replace hO := hO.tr hO9
          clear hO9
          exact k_vret C hr hlk hW hS hB ⟨hO, by rw [mTick, if_pos q_9]; exact hR⟩ (Nat.le_refl _) (Nat.le_refl _) dX11_tick_79
        · have q_36 : ¬ (7 ≤ k) := fun z => c_36 ((nI_leI (a := 7) (b := k) (by omega) (by omega)).mpr z)
          refine lv_aload_n hx hb dX11_tick_39 rfl (lv_at hl 0 rfl) ?_
          refine g_1101 C hinX11 hW hR.1.1 (mA_1 hR.1) l7 dX11_tick_40 ?_
          refine lv_iload_n hx hb dX11_tick_43 rfl (lv_at hl 3 rfl) ?_
          refine lv_aload_n hx hb dX11_tick_44 rfl (lv_at hl 0 rfl) ?_
          refine g_1101 C hinX11 hW hR.1.1 (mA_1 hR.1) l7 dX11_tick_45 ?_
          refine lv_iload_n hx hb dX11_tick_48 rfl (lv_at hl 3 rfl) ?_
          refine a_Jload C hW (j := k) (mK_1 hR.1) (mN_1 hR.1) rfl (by omega) (by omega) dX11_tick_49 ?_
          refine top_l (show aJ Sk (t 1) k = (mGone (iF g 1100 0) p0 k).2.1 1 k from hR.l 1 k) ?_
          refine lv_iload_n hx hb dX11_tick_50 rfl (lv_at hl 1 rfl) ?_
          refine lv_i2l (v := p0.toInt64) hx hb dX11_tick_51 rfl ?_
          refine lv_aload_n hx hb dX11_tick_52 rfl (lv_at hl 0 rfl) ?_
          refine g_1102 C hinX11 hW hR.1.1 (mA_2 hR.1) l13 dX11_tick_53 ?_
          refine lv_iload_n hx hb dX11_tick_56 rfl (lv_at hl 3 rfl) ?_
          refine a_Iload C hW (j := k) (mK_2 hR.1) (mN_2 hR.1) rfl (by omega) (by omega) dX11_tick_57 ?_
          refine top_i (show aI Sk (t 2) k = (mGone (iF g 1100 0) p0 k).1 2 k from hR.i 2 k) ?_
          refine lv_i2l (v := ((mGone (iF g 1100 0) p0 k).1 2 k).toInt64) hx hb dX11_tick_58 rfl ?_
          refine lv_lmul hx hb dX11_tick_59 ?_
          refine lv_ladd hx hb dX11_tick_60 ?_
          refine a_Jstore C hW hS (j := k) (mK_1 hR.1) (mN_1 hR.1) rfl (by omega) (by omega) dX11_tick_61 (fun S7 H locs e1 hW hS => ?_)
          have hR : MR S7 a0 t (iL (mGone (iF g 1100 0) p0 k) 1 k (((mGone (iF g 1100 0) p0 k).2.1 1 k) + (p0.toInt64 * (((mGone (iF g 1100 0) p0 k).1 2 k).toInt64)))) := by rw [e1]; exact hR.wJ
          replace hO : MO S S7 a0 t := by rw [e1]; exact hO.wJ
          clear e1
          refine lv_iinc (v := nI (k + 1)) (lv' := [(3, .int (nI (k + 1))), (0, .ref a0), (1, .int p0), (2, .int (mClk g 6))]) hx hb dX11_tick_62 hl (k := 3) rfl (nI_add k 1) (by decide) rfl (fun ls hl => ?_)
          refine lv_goto (tgt := 33) hx hb dX11_tick_65 (by decide) ?_
          exact ih (k + 1)  _ _ _ ls (by omega) (by omega) hR hO hW hS (lv_sub hl [1, 2, 3, 0] rfl)
    exact lp (7 - 0 + 1) 0  _ _ _ ls (by omega) (by omega) hR hO hW hS (lv_sub hl [2, 3, 1, 0] rfl)
def mRs1 (g : MS) (gt : Nat) : Nat → MS
  | 0 => g
  | h + 1 => iI (mRs1 g gt h) 27 h (if (mRs1 g gt h).1 27 h = nI (gt + 1) then 0 else (mRs1 g gt h).1 27 h)
theorem mRs1_f (g : MS) (gt h : Nat) : (mRs1 g gt h).2.2 = g.2.2 := by
  induction h with
  | zero => rfl
  | succ h ih => exact ih
def mRs2 (g : MS) (gt : Nat) : Nat → MS
  | 0 => g
  | j + 1 => iI (iI (iI (iI (iI (iI (mRs2 g gt j) 21 (8 * gt + j) 0) 22 (8 * gt + j) 0) 23 (8 * gt + j) 0) 24 (8 * gt + j) 0) 25 (8 * gt + j) 0) 26 (8 * gt + j) 0
def mRsG (g : MS) (n gt : Nat) : MS := mRs2 (mRs1 (iI g 20 gt (g.1 20 gt + 1)) gt n) gt 8
def mRestart (g : MS) (n : Nat) (p0 : Int32) : MS × Int32 := if 0 ≤ p0 ∧ p0 ≤ 5 then (mRsG (iF g 1100 0) n p0.toNatClampNeg, (mRsG (iF g 1100 0) n p0.toNatClampNeg).1 20 p0.toNatClampNeg) else (iF g 1100 1, 0)
set_option maxRecDepth 100000 in
set_option maxHeartbeats 4000000 in
theorem c_X11_restart {l : Launch} {D : va_G} {cy : Nat → ClassId} {B : Nat} {s0 : State} {S : PS} {a0 : Nat} {t : Nat → Nat} {g : MS} {n : Nat} {p0 : Int32} (hR : MR S a0 t g) (hn : g.2.2 1107 = nI n) (hn3 : n ≤ 300) : KI l yX11_restart wsX11_restart ({ frames := 1, cells := 0, slots := 0, locals := 22 }) D cy B s0 [.ref a0, .int p0] S (fun r S2 => MO S S2 a0 t ∧ MR S2 a0 t (mRestart g n p0).1 ∧ r = (mRestart g n p0).2) 0 0 := by
  refine k_body (own := RX11) (cc := cX11_restart) (maxL := 3) (ret := (some .int)) rfl (by decide) rfl (Nat.le_of_ble_eq_true rfl) ?_
  intro p e s m below meth c C hml hr hlk hnm hB hW ls hl
  obtain ⟨hx, hb, hts, hown, hK, hEn⟩ := id C
  have hS : va_S (Aw B) s.heap s.heap [] := va_S.rf
  have hinX11 : ∀ w ∈ wsX110, w ∈ wsX11_restart := by decide +kernel
  have l67 : Cond.fieldLink RX11 67 "LeaseGatesModel" "births" "[I" ∈ wsX11_restart := by decide +kernel
  have l70 : Cond.fieldLink RX11 70 "LeaseGatesModel" "demand" "[I" ∈ wsX11_restart := by decide +kernel
  have l73 : Cond.fieldLink RX11 73 "LeaseGatesModel" "use" "[I" ∈ wsX11_restart := by decide +kernel
  have l76 : Cond.fieldLink RX11 76 "LeaseGatesModel" "counts" "[I" ∈ wsX11_restart := by decide +kernel
  have l79 : Cond.fieldLink RX11 79 "LeaseGatesModel" "isOpen" "[Z" ∈ wsX11_restart := by decide +kernel
  have l82 : Cond.fieldLink RX11 82 "LeaseGatesModel" "since" "[I" ∈ wsX11_restart := by decide +kernel
  have l85 : Cond.fieldLink RX11 85 "LeaseGatesModel" "refusals" "[I" ∈ wsX11_restart := by decide +kernel
  have l88 : Cond.fieldLink RX11 88 "LeaseGatesModel" "holder" "[I" ∈ wsX11_restart := by decide +kernel
  have l111 : Cond.fieldLink RX11 111 "LeaseGatesModel" "loans" "I" ∈ wsX11_restart := by decide +kernel
  have hl : lv_has ls 3 [(0, .ref a0), (1, .int p0)] := hl
  have hO : MO S S a0 t := MO.rf
  refine lv_aload_n hx hb dX11_restart_0 rfl (lv_at hl 0 rfl) ?_
  refine lv_iload_n hx hb dX11_restart_1 rfl (lv_at hl 1 rfl) ?_
  refine lv_iconst (v := 0) hx hb dX11_restart_2 (by decide) ?_
  refine lv_iconst (v := 5) hx hb dX11_restart_3 (by decide) ?_
  refine k_callSi (As := [.int p0, .int 0, .int 5]) (rest := [.ref a0]) C hml (c_X11_isIn) (va_cwS 3 hts gX11_restart_X11_isIn rfl rfl rfl (by decide +kernel) ⟨by decide, by decide⟩) hW hS hB rfl hl.1 rfl (Nat.le_of_ble_eq_true rfl) dX11_restart_4 ⟨Nat.le_of_ble_eq_true rfl, Nat.le_of_ble_eq_true rfl⟩ (fun r9 S1 H locs hp9 hW hS => ?_)
  obtain ⟨e8, e9⟩ := hp9
  rw [e8] at hW
  subst e9
  refine lv_if_eq (tgt := 14) hx hb dX11_restart_7 (by decide) (fun c_7 => ?_) (fun c_7 => ?_)
  · have q_7 : ¬ (0 ≤ p0 ∧ p0 ≤ 5) := ite0.mp c_7
    refine lv_iconst (v := 1) hx hb dX11_restart_14 (by decide) ?_
    refine k_callVi (As := [.int 1]) (rest := []) C hml (c_X11_refused hR) (cwV 1 hts gX11_restart_X11_refused rfl rfl rfl (by decide +kernel) ⟨by decide, by decide⟩) hW hS hB (hR.1.1).1 (pAt_11 (hR.1.1).2) rfl rfl hl.1 rfl (Nat.le_of_ble_eq_true rfl) dX11_restart_15 ⟨Nat.le_of_ble_eq_true rfl, Nat.le_of_ble_eq_true rfl⟩ (fun r9 S2 H locs hp9 hW hS => ?_)
    obtain ⟨hO9, hR, e9⟩ := hp9
    replace hO := hO.tr hO9
    obtain rfl : r9 = 1 := e9.trans (by decide)
    clear hO9 e9
    refine lv_if_eq (tgt := 23) hx hb dX11_restart_18 (by decide) (fun c9 => absurd c9 (by decide)) (fun c9 => ?_)
    refine lv_iconst (v := 0) hx hb dX11_restart_21 (by decide) ?_
    exact k_iret C hr hlk hW hS hB ⟨hO, by rw [mRestart, if_neg q_7]; exact hR, by rw [mRestart, if_neg q_7]⟩ (Nat.le_refl _) (Nat.le_refl _) dX11_restart_22
  · have q_7 : (0 ≤ p0 ∧ p0 ≤ 5) := ite1.mp c_7
    refine lv_iconst (v := 0) hx hb dX11_restart_10 (by decide) ?_
    refine lv_goto (tgt := 15) hx hb dX11_restart_11 (by decide) ?_
    refine k_callVi (As := [.int 0]) (rest := []) C hml (c_X11_refused hR) (cwV 1 hts gX11_restart_X11_refused rfl rfl rfl (by decide +kernel) ⟨by decide, by decide⟩) hW hS hB (hR.1.1).1 (pAt_11 (hR.1.1).2) rfl rfl hl.1 rfl (Nat.le_of_ble_eq_true rfl) dX11_restart_15 ⟨Nat.le_of_ble_eq_true rfl, Nat.le_of_ble_eq_true rfl⟩ (fun r9 S3 H locs hp9 hW hS => ?_)
    obtain ⟨hO9, hR, e9⟩ := hp9
    replace hO := hO.tr hO9
    obtain rfl : r9 = 0 := e9.trans (by decide)
    clear hO9 e9
    refine lv_if_eq (tgt := 23) hx hb dX11_restart_18 (by decide) (fun c9 => ?_) (fun c9 => absurd c9 (by decide))
    obtain ⟨gt, hgt, rfl⟩ := rngN 5 (by decide) q_7
    refine lv_aload_n hx hb dX11_restart_23 rfl (lv_at hl 0 rfl) ?_
    refine g_1120 C hinX11 hW hR.1.1 (mA_20 hR.1) l67 dX11_restart_24 ?_
    refine lv_iload_n hx hb dX11_restart_27 rfl (lv_at hl 1 rfl) ?_
    refine lv_dup2_11 hx hb dX11_restart_28 rfl rfl ?_
    refine a_Iload C hW (j := gt) (mK_20 hR.1) (mN_20 hR.1) rfl (by omega) (by omega) dX11_restart_29 ?_
    refine top_i (show aI S3 (t 20) gt = (iF g 1100 0).1 20 gt from hR.i 20 gt) ?_
    refine lv_iconst (v := 1) hx hb dX11_restart_30 (by decide) ?_
    refine lv_iadd hx hb dX11_restart_31 ?_
    refine a_Istore C hW hS (j := gt) (mK_20 hR.1) (mN_20 hR.1) rfl (by omega) (by omega) dX11_restart_32 (fun S4 H locs e1 hW hS => ?_)
    have hR : MR S4 a0 t (iI (iF g 1100 0) 20 gt (((iF g 1100 0).1 20 gt) + 1)) := by rw [e1]; exact hR.wI
    replace hO : MO S S4 a0 t := by rw [e1]; exact hO.wI
    clear e1
    refine lv_iconst (v := 0) hx hb dX11_restart_33 (by decide) ?_
    refine lv_istore_n (lv' := [(2, .int 0), (0, .ref a0), (1, .int (nI gt))]) hx hb dX11_restart_34 rfl hl (by decide) rfl (fun ls hl => ?_)
    have lp : ∀ (d k : Nat) (Sk : PS) (H : Heap) (locs : List Loc) (ls : Array Slot), k ≤ n → n - k < d → MR Sk a0 t (mRs1 (iI (iF g 1100 0) 20 gt ((iF g 1100 0).1 20 gt + 1)) gt k) → MO S Sk a0 t → PW D cy B Sk H → va_S (Aw B) s.heap H locs → lv_has ls 3 [(0, .ref a0), (1, .int (nI gt)), (2, .int (nI k))] → W p l e ({ frames := 1, cells := 0, slots := 0, locals := 22 }) s m [.ref a0, .int (nI gt)].toArray below meth c H locs 0 0 (MQ below (va_Qi (fun r S2 => MO S S2 a0 t ∧ MR S2 a0 t (mRestart g n (nI gt)).1 ∧ r = (mRestart g n (nI gt)).2) (PreW D cy B s0) (Aw B)) [.ref a0, .int (nI gt)].toArray s 0 0 (Aw B)) (F0 m 35 ls []) := by
      intro d
      induction d with
      | zero => intro k  Sk H locs ls _ hd; exact absurd hd (Nat.not_lt_zero _)
      | succ d ih =>
        intro k  Sk H locs ls hk hd hR hO hW hS hl
        replace hn := (congrFun (mRs1_f (iI (iF g 1100 0) 20 gt ((iF g 1100 0).1 20 gt + 1)) gt k) 1107).trans hn
        refine lv_iload_n hx hb dX11_restart_35 rfl (lv_at hl 2 rfl) ?_
        refine lv_aload_n hx hb dX11_restart_36 rfl (lv_at hl 0 rfl) ?_
        refine g_1107 C hinX11 hW hR.1.1 l111 dX11_restart_37 ?_
        refine top_i (show fI Sk 1107 a0 = nI n from (hR.f 1107).trans hn) ?_
        refine lv_icmp_ge (tgt := 77) hx hb dX11_restart_40 (by decide) (fun c_40 => ?_) (fun c_40 => ?_)
        · have q_40 : n ≤ k := (nI_leI (a := n) (b := k) (by omega) (by omega)).mp c_40
          refine lv_bipush (v := 8) hx hb dX11_restart_77 (by decide) ?_
          refine lv_iload_n hx hb dX11_restart_79 rfl (lv_at hl 1 rfl) ?_
          refine lv_imul hx hb dX11_restart_80 ?_
          refine top_i (show 8 * (nI gt) = nI (8 * gt) from pk_mul 8 gt) ?_
          refine lv_istore_n (lv' := [(2, .int (nI (8 * gt))), (0, .ref a0), (1, .int (nI gt))]) hx hb dX11_restart_81 rfl hl (by decide) rfl (fun ls hl => ?_)
          have lq : ∀ (d_lq j : Nat) (Sj : PS) (H : Heap) (locs : List Loc) (ls : Array Slot), j ≤ 8 → 8 - j < d_lq → MR Sj a0 t (mRs2 (mRs1 (iI (iF g 1100 0) 20 gt ((iF g 1100 0).1 20 gt + 1)) gt n) gt j) → MO S Sj a0 t → PW D cy B Sj H → va_S (Aw B) s.heap H locs → lv_has ls 3 [(0, .ref a0), (1, .int (nI gt)), (2, .int (nI (8 * gt + j)))] → W p l e ({ frames := 1, cells := 0, slots := 0, locals := 22 }) s m [.ref a0, .int (nI gt)].toArray below meth c H locs 0 0 (MQ below (va_Qi (fun r S2 => MO S S2 a0 t ∧ MR S2 a0 t (mRestart g n (nI gt)).1 ∧ r = (mRestart g n (nI gt)).2) (PreW D cy B s0) (Aw B)) [.ref a0, .int (nI gt)].toArray s 0 0 (Aw B)) (F0 m 82 ls []) := by
            intro d_lq
            induction d_lq with
            | zero => intro j  Sj H locs ls _ hd; exact absurd hd (Nat.not_lt_zero _)
            | succ d_lq ih_lq =>
              intro j  Sj H locs ls hk hd hR hO hW hS hl
              refine lv_iload_n hx hb dX11_restart_82 rfl (lv_at hl 2 rfl) ?_
              refine lv_bipush (v := 8) hx hb dX11_restart_83 (by decide) ?_
              refine lv_iload_n hx hb dX11_restart_85 rfl (lv_at hl 1 rfl) ?_
              refine lv_imul hx hb dX11_restart_86 ?_
              refine top_i (show 8 * (nI gt) = nI (8 * gt) from pk_mul 8 gt) ?_
              refine lv_bipush (v := 8) hx hb dX11_restart_87 (by decide) ?_
              refine lv_iadd hx hb dX11_restart_89 ?_
              refine top_i (show (nI (8 * gt)) + 8 = nI ((8 * gt) + 8) from nI_add (8 * gt) 8) ?_
              refine lv_icmp_ge (tgt := 141) hx hb dX11_restart_90 (by decide) (fun c_90 => ?_) (fun c_90 => ?_)
              · have q_90 : ((8 * gt) + 8) ≤ (8 * gt + j) := (nI_leI (a := ((8 * gt) + 8)) (b := (8 * gt + j)) (by omega) (by omega)).mp c_90
                refine lv_aload_n hx hb dX11_restart_141 rfl (lv_at hl 0 rfl) ?_
                refine g_1120 C hinX11 hW hR.1.1 (mA_20 hR.1) l67 dX11_restart_142 ?_
                refine lv_iload_n hx hb dX11_restart_145 rfl (lv_at hl 1 rfl) ?_
                refine a_Iload C hW (j := gt) (mK_20 hR.1) (mN_20 hR.1) rfl (by omega) (by omega) dX11_restart_146 ?_
                refine top_i (show aI Sj (t 20) gt = (mRs2 (mRs1 (iI (iF g 1100 0) 20 gt ((iF g 1100 0).1 20 gt + 1)) gt n) gt j).1 20 gt from hR.i 20 gt) ?_
                exact k_iret C hr hlk hW hS hB ⟨hO, by rw [show j = 8 by omega] at hR; rw [mRestart, if_pos q_7, nI_clamp (by omega)]; exact hR, by rw [mRestart, if_pos q_7, nI_clamp (by omega), show j = 8 by omega]; rfl⟩ (Nat.le_refl _) (Nat.le_refl _) dX11_restart_147
              · have q_90 : ¬ (((8 * gt) + 8) ≤ (8 * gt + j)) := fun z => c_90 ((nI_leI (a := ((8 * gt) + 8)) (b := (8 * gt + j)) (by omega) (by omega)).mpr z)
                refine lv_aload_n hx hb dX11_restart_93 rfl (lv_at hl 0 rfl) ?_
                refine g_1121 C hinX11 hW hR.1.1 (mA_21 hR.1) l70 dX11_restart_94 ?_
                refine lv_iload_n hx hb dX11_restart_97 rfl (lv_at hl 2 rfl) ?_
                refine lv_iconst (v := 0) hx hb dX11_restart_98 (by decide) ?_
                refine a_Istore C hW hS (j := (8 * gt + j)) (mK_21 hR.1) (mN_21 hR.1) rfl (by omega) (by omega) dX11_restart_99 (fun S5 H locs e1 hW hS => ?_)
                have hR : MR S5 a0 t (iI (mRs2 (mRs1 (iI (iF g 1100 0) 20 gt ((iF g 1100 0).1 20 gt + 1)) gt n) gt j) 21 (8 * gt + j) 0) := by rw [e1]; exact hR.wI
                replace hO : MO S S5 a0 t := by rw [e1]; exact hO.wI
                clear e1
                refine lv_aload_n hx hb dX11_restart_100 rfl (lv_at hl 0 rfl) ?_
                refine g_1122 C hinX11 hW hR.1.1 (mA_22 hR.1) l73 dX11_restart_101 ?_
                refine lv_iload_n hx hb dX11_restart_104 rfl (lv_at hl 2 rfl) ?_
                refine lv_iconst (v := 0) hx hb dX11_restart_105 (by decide) ?_
                refine a_Istore C hW hS (j := (8 * gt + j)) (mK_22 hR.1) (mN_22 hR.1) rfl (by omega) (by omega) dX11_restart_106 (fun S6 H locs e1 hW hS => ?_)
                have hR : MR S6 a0 t (iI (iI (mRs2 (mRs1 (iI (iF g 1100 0) 20 gt ((iF g 1100 0).1 20 gt + 1)) gt n) gt j) 21 (8 * gt + j) 0) 22 (8 * gt + j) 0) := by rw [e1]; exact hR.wI
                replace hO : MO S S6 a0 t := by rw [e1]; exact hO.wI
                clear e1
                refine lv_aload_n hx hb dX11_restart_107 rfl (lv_at hl 0 rfl) ?_
                refine g_1123 C hinX11 hW hR.1.1 (mA_23 hR.1) l76 dX11_restart_108 ?_
                refine lv_iload_n hx hb dX11_restart_111 rfl (lv_at hl 2 rfl) ?_
                refine lv_iconst (v := 0) hx hb dX11_restart_112 (by decide) ?_
                refine a_Istore C hW hS (j := (8 * gt + j)) (mK_23 hR.1) (mN_23 hR.1) rfl (by omega) (by omega) dX11_restart_113 (fun S7 H locs e1 hW hS => ?_)
                have hR : MR S7 a0 t (iI (iI (iI (mRs2 (mRs1 (iI (iF g 1100 0) 20 gt ((iF g 1100 0).1 20 gt + 1)) gt n) gt j) 21 (8 * gt + j) 0) 22 (8 * gt + j) 0) 23 (8 * gt + j) 0) := by rw [e1]; exact hR.wI
                replace hO : MO S S7 a0 t := by rw [e1]; exact hO.wI
                clear e1
                refine lv_aload_n hx hb dX11_restart_114 rfl (lv_at hl 0 rfl) ?_
                refine g_1124 C hinX11 hW hR.1.1 (mA_24 hR.1) l79 dX11_restart_115 ?_
                refine lv_iload_n hx hb dX11_restart_118 rfl (lv_at hl 2 rfl) ?_
                refine lv_iconst (v := 0) hx hb dX11_restart_119 (by decide) ?_
                refine a_Zstore C hW hS (j := (8 * gt + j)) (mK_24 hR.1) (mN_24 hR.1) rfl (by omega) (by omega) (by decide) dX11_restart_120 (fun S8 H locs e1 hW hS => ?_)
                have hR : MR S8 a0 t (iI (iI (iI (iI (mRs2 (mRs1 (iI (iF g 1100 0) 20 gt ((iF g 1100 0).1 20 gt + 1)) gt n) gt j) 21 (8 * gt + j) 0) 22 (8 * gt + j) 0) 23 (8 * gt + j) 0) 24 (8 * gt + j) 0) := by rw [e1]; exact hR.wI
                replace hO : MO S S8 a0 t := by rw [e1]; exact hO.wI
                clear e1
                refine lv_aload_n hx hb dX11_restart_121 rfl (lv_at hl 0 rfl) ?_
                refine g_1125 C hinX11 hW hR.1.1 (mA_25 hR.1) l82 dX11_restart_122 ?_
                refine lv_iload_n hx hb dX11_restart_125 rfl (lv_at hl 2 rfl) ?_
                refine lv_iconst (v := 0) hx hb dX11_restart_126 (by decide) ?_
                refine a_Istore C hW hS (j := (8 * gt + j)) (mK_25 hR.1) (mN_25 hR.1) rfl (by omega) (by omega) dX11_restart_127 (fun S9 H locs e1 hW hS => ?_)
                have hR : MR S9 a0 t (iI (iI (iI (iI (iI (mRs2 (mRs1 (iI (iF g 1100 0) 20 gt ((iF g 1100 0).1 20 gt + 1)) gt n) gt j) 21 (8 * gt + j) 0) 22 (8 * gt + j) 0) 23 (8 * gt + j) 0) 24 (8 * gt + j) 0) 25 (8 * gt + j) 0) := by rw [e1]; exact hR.wI
                replace hO : MO S S9 a0 t := by rw [e1]; exact hO.wI
                clear e1
                refine lv_aload_n hx hb dX11_restart_128 rfl (lv_at hl 0 rfl) ?_
                refine g_1126 C hinX11 hW hR.1.1 (mA_26 hR.1) l85 dX11_restart_129 ?_
                refine lv_iload_n hx hb dX11_restart_132 rfl (lv_at hl 2 rfl) ?_
                refine lv_iconst (v := 0) hx hb dX11_restart_133 (by decide) ?_
                refine a_Istore C hW hS (j := (8 * gt + j)) (mK_26 hR.1) (mN_26 hR.1) rfl (by omega) (by omega) dX11_restart_134 (fun S10 H locs e1 hW hS => ?_)
                have hR : MR S10 a0 t (iI (iI (iI (iI (iI (iI (mRs2 (mRs1 (iI (iF g 1100 0) 20 gt ((iF g 1100 0).1 20 gt + 1)) gt n) gt j) 21 (8 * gt + j) 0) 22 (8 * gt + j) 0) 23 (8 * gt + j) 0) 24 (8 * gt + j) 0) 25 (8 * gt + j) 0) 26 (8 * gt + j) 0) := by rw [e1]; exact hR.wI
                replace hO : MO S S10 a0 t := by rw [e1]; exact hO.wI
                clear e1
                refine lv_iinc (v := nI ((8 * gt + j) + 1)) (lv' := [(2, .int (nI ((8 * gt + j) + 1))), (0, .ref a0), (1, .int (nI gt))]) hx hb dX11_restart_135 hl (k := 2) rfl (nI_add (8 * gt + j) 1) (by decide) rfl (fun ls hl => ?_)
                refine lv_goto (tgt := 82) hx hb dX11_restart_138 (by decide) ?_
                exact ih_lq (j + 1)  _ _ _ ls (by omega) (by omega) hR hO hW hS (lv_sub hl [1, 2, 0] rfl)
          exact lq (8 - 0 + 1) 0  _ _ _ ls (by omega) (by omega) (by rw [show k = n by omega] at hR; exact hR) hO hW hS (lv_sub hl [1, 2, 0] rfl)
        · have q_40 : ¬ (n ≤ k) := fun z => c_40 ((nI_leI (a := n) (b := k) (by omega) (by omega)).mpr z)
          refine lv_aload_n hx hb dX11_restart_43 rfl (lv_at hl 0 rfl) ?_
          refine g_1127 C hinX11 hW hR.1.1 (mA_27 hR.1) l88 dX11_restart_44 ?_
          refine lv_iload_n hx hb dX11_restart_47 rfl (lv_at hl 2 rfl) ?_
          refine lv_aload_n hx hb dX11_restart_48 rfl (lv_at hl 0 rfl) ?_
          refine g_1127 C hinX11 hW hR.1.1 (mA_27 hR.1) l88 dX11_restart_49 ?_
          refine lv_iload_n hx hb dX11_restart_52 rfl (lv_at hl 2 rfl) ?_
          refine a_Iload C hW (j := k) (mK_27 hR.1) (mN_27 hR.1) rfl (by omega) (by omega) dX11_restart_53 ?_
          refine top_i (show aI Sk (t 27) k = (mRs1 (iI (iF g 1100 0) 20 gt ((iF g 1100 0).1 20 gt + 1)) gt k).1 27 k from hR.i 27 k) ?_
          refine lv_iload_n hx hb dX11_restart_54 rfl (lv_at hl 1 rfl) ?_
          refine lv_iconst (v := 1) hx hb dX11_restart_55 (by decide) ?_
          refine lv_iadd hx hb dX11_restart_56 ?_
          refine top_i (show (nI gt) + 1 = nI (gt + 1) from nI_add gt 1) ?_
          refine lv_icmp_ne (tgt := 64) hx hb dX11_restart_57 (by decide) (fun c_57 => ?_) (fun c_57 => ?_)
          · refine lv_aload_n hx hb dX11_restart_64 rfl (lv_at hl 0 rfl) ?_
            refine g_1127 C hinX11 hW hR.1.1 (mA_27 hR.1) l88 dX11_restart_65 ?_
            refine lv_iload_n hx hb dX11_restart_68 rfl (lv_at hl 2 rfl) ?_
            refine a_Iload C hW (j := k) (mK_27 hR.1) (mN_27 hR.1) rfl (by omega) (by omega) dX11_restart_69 ?_
            refine top_i (show aI Sk (t 27) k = (mRs1 (iI (iF g 1100 0) 20 gt ((iF g 1100 0).1 20 gt + 1)) gt k).1 27 k from hR.i 27 k) ?_
            refine a_Istore C hW hS (j := k) (mK_27 hR.1) (mN_27 hR.1) rfl (by omega) (by omega) dX11_restart_70 (fun S11 H locs e1 hW hS => ?_)
            have hR : MR S11 a0 t (iI (mRs1 (iI (iF g 1100 0) 20 gt ((iF g 1100 0).1 20 gt + 1)) gt k) 27 k ((mRs1 (iI (iF g 1100 0) 20 gt ((iF g 1100 0).1 20 gt + 1)) gt k).1 27 k)) := by rw [e1]; exact hR.wI
            replace hO : MO S S11 a0 t := by rw [e1]; exact hO.wI
            clear e1
            refine lv_iinc (v := nI (k + 1)) (lv' := [(2, .int (nI (k + 1))), (0, .ref a0), (1, .int (nI gt))]) hx hb dX11_restart_71 hl (k := 2) rfl (nI_add k 1) (by decide) rfl (fun ls hl => ?_)
            refine lv_goto (tgt := 35) hx hb dX11_restart_74 (by decide) ?_
            exact ih (k + 1)  _ _ _ ls (by omega) (by omega) (by rw [mRs1, if_neg c_57]; exact hR) hO hW hS (lv_sub hl [1, 2, 0] rfl)
          · refine lv_iconst (v := 0) hx hb dX11_restart_60 (by decide) ?_
            refine lv_goto (tgt := 70) hx hb dX11_restart_61 (by decide) ?_
            refine a_Istore C hW hS (j := k) (mK_27 hR.1) (mN_27 hR.1) rfl (by omega) (by omega) dX11_restart_70 (fun S12 H locs e1 hW hS => ?_)
            have hR : MR S12 a0 t (iI (mRs1 (iI (iF g 1100 0) 20 gt ((iF g 1100 0).1 20 gt + 1)) gt k) 27 k 0) := by rw [e1]; exact hR.wI
            replace hO : MO S S12 a0 t := by rw [e1]; exact hO.wI
            clear e1
            refine lv_iinc (v := nI (k + 1)) (lv' := [(2, .int (nI (k + 1))), (0, .ref a0), (1, .int (nI gt))]) hx hb dX11_restart_71 hl (k := 2) rfl (nI_add k 1) (by decide) rfl (fun ls hl => ?_)
            refine lv_goto (tgt := 35) hx hb dX11_restart_74 (by decide) ?_
            exact ih (k + 1)  _ _ _ ls (by omega) (by omega) (by rw [mRs1, if_pos c_57]; exact hR) hO hW hS (lv_sub hl [1, 2, 0] rfl)
    exact lp (n - 0 + 1) 0  _ _ _ ls (by omega) (by omega) hR hO hW hS (lv_sub hl [1, 2, 0] rfl)
abbrev mIsMsg (g : MS) (p : Int32) : Prop := 0 ≤ p ∧ p < g.2.2 1131 ∧ ¬ g.1 33 p.toNatClampNeg = 0
set_option maxRecDepth 100000 in
set_option maxHeartbeats 4000000 in
theorem c_X11_isMessage {l : Launch} {D : va_G} {cy : Nat → ClassId} {B : Nat} {s0 : State} {S : PS} {a0 : Nat} {t : Nat → Nat} {g : MS} {p0 : Int32} (hR : MR S a0 t g) (hm : MsgOk g) : KI l yX11_isMessage wsX11_isMessage ({ frames := 0, cells := 0, slots := 0, locals := 0 }) D cy B s0 [.ref a0, .int p0] S (fun r S2 => S2 = S ∧ r = (if mIsMsg g p0 then 1 else 0)) 0 0 := by
  refine k_body (own := RX11) (cc := cX11_isMessage) (maxL := 2) (ret := (some .boolean)) rfl (by decide) rfl (Nat.le_of_ble_eq_true rfl) ?_
  intro p e s m below meth c C hml hr hlk hnm hB hW ls hl
  obtain ⟨hx, hb, hts, hown, hK, hEn⟩ := id C
  have hS : va_S (Aw B) s.heap s.heap [] := va_S.rf
  have hinX11 : ∀ w ∈ wsX110, w ∈ wsX11_isMessage := by decide +kernel
  have l103 : Cond.fieldLink RX11 103 "LeaseGatesModel" "isThere" "[Z" ∈ wsX11_isMessage := by decide +kernel
  have l166 : Cond.fieldLink RX11 166 "LeaseGatesModel" "messages" "I" ∈ wsX11_isMessage := by decide +kernel
  have hl : lv_has ls 2 [(0, .ref a0), (1, .int p0)] := hl
  have hO : MO S S a0 t := MO.rf
  have hm2 := hm.2
  refine lv_iload_n hx hb dX11_isMessage_0 rfl (lv_at hl 1 rfl) ?_
  refine lv_if_lt (tgt := 25) hx hb dX11_isMessage_1 (by decide) (fun c_1 => ?_) (fun c_1 => ?_)
  · refine lv_iconst (v := 0) hx hb dX11_isMessage_25 (by decide) ?_
    exact k_zret C hr hlk hW hS hB ⟨rfl, (if_neg (fun z => absurd z.1 (Int32.not_le.mpr c_1))).symm⟩ (by decide) (Nat.le_refl _) (Nat.le_refl _) dX11_isMessage_26
  · refine lv_iload_n hx hb dX11_isMessage_4 rfl (lv_at hl 1 rfl) ?_
    refine lv_aload_n hx hb dX11_isMessage_5 rfl (lv_at hl 0 rfl) ?_
    refine g_1131 C hinX11 hW hR.1.1 l166 dX11_isMessage_6 ?_
    refine top_i (show fI S 1131 a0 = nI (mqN g) from (hR.f 1131).trans hm.1) ?_
    refine lv_icmp_ge (tgt := 25) hx hb dX11_isMessage_9 (by decide) (fun c_9 => ?_) (fun c_9 => ?_)
    · refine lv_iconst (v := 0) hx hb dX11_isMessage_25 (by decide) ?_
      exact k_zret C hr hlk hW hS hB ⟨rfl, (if_neg (fun z => absurd z.2.1 (Int32.not_lt.mpr (by rw [hm.1]; exact c_9)))).symm⟩ (by decide) (Nat.le_refl _) (Nat.le_refl _) dX11_isMessage_26
    · obtain ⟨k, hk, rfl⟩ : ∃ k : Nat, k < mqN g ∧ p0 = nI k := by
        obtain ⟨k, h1, h2⟩ := nI_of c_1
        subst h2
        exact ⟨k, by rcases Nat.lt_or_ge k (mqN g) with z | z; exact z; exact absurd ((nI_leI (by omega) h1).mpr z) c_9, rfl⟩
      refine lv_aload_n hx hb dX11_isMessage_12 rfl (lv_at hl 0 rfl) ?_
      refine g_1133 C hinX11 hW hR.1.1 (mA_33 hR.1) l103 dX11_isMessage_13 ?_
      refine lv_iload_n hx hb dX11_isMessage_16 rfl (lv_at hl 1 rfl) ?_
      refine a_Zload C hW (j := k) (mK_33 hR.1) (mN_33 hR.1) rfl (by omega) (by omega) dX11_isMessage_17 ?_
      refine top_i (show aI S (t 33) k = g.1 33 k from hR.i 33 k) ?_
      refine lv_if_eq (tgt := 25) hx hb dX11_isMessage_18 (by decide) (fun c_18 => ?_) (fun c_18 => ?_)
      · refine lv_iconst (v := 0) hx hb dX11_isMessage_25 (by decide) ?_
        exact k_zret C hr hlk hW hS hB ⟨rfl, (if_neg (fun z => z.2.2 (by rw [nI_clamp (by omega)]; exact c_18))).symm⟩ (by decide) (Nat.le_refl _) (Nat.le_refl _) dX11_isMessage_26
      · refine lv_iconst (v := 1) hx hb dX11_isMessage_21 (by decide) ?_
        refine lv_goto (tgt := 26) hx hb dX11_isMessage_22 (by decide) ?_
        exact k_zret C hr hlk hW hS hB ⟨rfl, (if_pos ⟨nI_pos' (by omega), by rw [hm.1]; exact Int32.not_le.mp c_9, fun z => c_18 (by rw [nI_clamp (by omega)] at z; exact z)⟩).symm⟩ (by decide) (Nat.le_refl _) (Nat.le_refl _) dX11_isMessage_26
def mSG (g : MS) (gt kk : Nat) : MS :=
  if 0 < (mSend g 1 (nI gt) (nI kk) (g.1 15 (8 * gt + kk)) (g.1 12 gt) (g.1 13 (8 * gt + kk)) (g.1 14 (8 * gt + kk))).2 then
    iI (mSend g 1 (nI gt) (nI kk) (g.1 15 (8 * gt + kk)) (g.1 12 gt) (g.1 13 (8 * gt + kk)) (g.1 14 (8 * gt + kk))).1 32 (8 * mqN g + 7) ((mSend g 1 (nI gt) (nI kk) (g.1 15 (8 * gt + kk)) (g.1 12 gt) (g.1 13 (8 * gt + kk)) (g.1 14 (8 * gt + kk))).1.1 16 (8 * gt + kk))
  else (mSend g 1 (nI gt) (nI kk) (g.1 15 (8 * gt + kk)) (g.1 12 gt) (g.1 13 (8 * gt + kk)) (g.1 14 (8 * gt + kk))).1
theorem mSend_lt {g : MS} (hm : MsgOk g) {x0 x1 x2 x3 x4 x5 x6 : Int32} (h : 0 < (mSend g x0 x1 x2 x3 x4 x5 x6).2) : mqN g < 300 := by
  rcases Nat.lt_or_ge (mqN g) 300 with z | z
  · exact z
  · have e : mqN g = 300 := by have := hm.2; omega
    rw [mSend, if_pos e] at h
    exact absurd h (show ¬ (0 : Int32) < 0 by decide)
set_option maxRecDepth 100000 in
set_option maxHeartbeats 4000000 in
theorem c_X11_sendGrant {l : Launch} {D : va_G} {cy : Nat → ClassId} {B : Nat} {s0 : State} {S : PS} {a0 : Nat} {t : Nat → Nat} {g : MS} {gt kk : Nat} (hR : MR S a0 t g) (hg : gt < 6) (hk : kk < 8) (hm : MsgOk g) : KV l yX11_sendGrant wsX11_sendGrant ({ frames := 1, cells := 0, slots := 0, locals := 28 }) D cy B s0 [.ref a0, .int (nI gt), .int (nI kk)] S (fun S2 => MO S S2 a0 t ∧ MR S2 a0 t (mSG g gt kk)) 0 0 := by
  refine k_body (own := RX11) (cc := cX11_sendGrant) (maxL := 5) (ret := none) rfl (by decide) rfl (Nat.le_of_ble_eq_true rfl) ?_
  intro p e s m below meth c C hml hr hlk hnm hB hW ls hl
  obtain ⟨hx, hb, hts, hown, hK, hEn⟩ := id C
  have hS : va_S (Aw B) s.heap s.heap [] := va_S.rf
  have hinX11 : ∀ w ∈ wsX110, w ∈ wsX11_sendGrant := by decide +kernel
  have l42 : Cond.fieldLink RX11 42 "LeaseGatesModel" "heard" "[I" ∈ wsX11_sendGrant := by decide +kernel
  have l45 : Cond.fieldLink RX11 45 "LeaseGatesModel" "answered" "[I" ∈ wsX11_sendGrant := by decide +kernel
  have l48 : Cond.fieldLink RX11 48 "LeaseGatesModel" "lastNumber" "[I" ∈ wsX11_sendGrant := by decide +kernel
  have l51 : Cond.fieldLink RX11 51 "LeaseGatesModel" "lastTokens" "[I" ∈ wsX11_sendGrant := by decide +kernel
  have l54 : Cond.fieldLink RX11 54 "LeaseGatesModel" "lastLength" "[I" ∈ wsX11_sendGrant := by decide +kernel
  have l100 : Cond.fieldLink RX11 100 "LeaseGatesModel" "told" "[I" ∈ wsX11_sendGrant := by decide +kernel
  have l166 : Cond.fieldLink RX11 166 "LeaseGatesModel" "messages" "I" ∈ wsX11_sendGrant := by decide +kernel
  have hl : lv_has ls 5 [(0, .ref a0), (1, .int (nI gt)), (2, .int (nI kk))] := hl
  have hO : MO S S a0 t := MO.rf
  have hm2 := hm.2
  refine lv_bipush (v := 8) hx hb dX11_sendGrant_0 (by decide) ?_
  refine lv_iload_n hx hb dX11_sendGrant_2 rfl (lv_at hl 1 rfl) ?_
  refine lv_imul hx hb dX11_sendGrant_3 ?_
  refine top_i (show 8 * (nI gt) = nI (8 * gt) from pk_mul 8 gt) ?_
  refine lv_iload_n hx hb dX11_sendGrant_4 rfl (lv_at hl 2 rfl) ?_
  refine lv_iadd hx hb dX11_sendGrant_5 ?_
  refine top_i (show (nI (8 * gt)) + (nI kk) = nI ((8 * gt) + kk) from nI_add (8 * gt) kk) ?_
  refine lv_istore_n (lv' := [(3, .int (nI ((8 * gt) + kk))), (0, .ref a0), (1, .int (nI gt)), (2, .int (nI kk))]) hx hb dX11_sendGrant_6 rfl hl (by decide) rfl (fun ls hl => ?_)
  refine lv_aload_n hx hb dX11_sendGrant_7 rfl (lv_at hl 1 rfl) ?_
  refine g_1131 C hinX11 hW hR.1.1 l166 dX11_sendGrant_8 ?_
  refine top_i (show fI S 1131 a0 = nI (mqN g) from (hR.f 1131).trans hm.1) ?_
  refine lv_istore (lv' := [(4, .int (nI (mqN g))), (3, .int (nI ((8 * gt) + kk))), (0, .ref a0), (1, .int (nI gt)), (2, .int (nI kk))]) hx hb dX11_sendGrant_11 hl (by decide) rfl (fun ls hl => ?_)
  refine lv_aload_n hx hb dX11_sendGrant_13 rfl (lv_at hl 2 rfl) ?_
  refine lv_iconst (v := 1) hx hb dX11_sendGrant_14 (by decide) ?_
  refine lv_iload_n hx hb dX11_sendGrant_15 rfl (lv_at hl 3 rfl) ?_
  refine lv_iload_n hx hb dX11_sendGrant_16 rfl (lv_at hl 4 rfl) ?_
  refine lv_aload_n hx hb dX11_sendGrant_17 rfl (lv_at hl 2 rfl) ?_
  refine g_1115 C hinX11 hW hR.1.1 (mA_15 hR.1) l51 dX11_sendGrant_18 ?_
  refine lv_iload_n hx hb dX11_sendGrant_21 rfl (lv_at hl 1 rfl) ?_
  refine a_Iload C hW (j := ((8 * gt) + kk)) (mK_15 hR.1) (mN_15 hR.1) rfl (by omega) (by omega) dX11_sendGrant_22 ?_
  refine top_i (show aI S (t 15) ((8 * gt) + kk) = g.1 15 ((8 * gt) + kk) from hR.i 15 ((8 * gt) + kk)) ?_
  refine lv_aload_n hx hb dX11_sendGrant_23 rfl (lv_at hl 2 rfl) ?_
  refine g_1112 C hinX11 hW hR.1.1 (mA_12 hR.1) l42 dX11_sendGrant_24 ?_
  refine lv_iload_n hx hb dX11_sendGrant_27 rfl (lv_at hl 3 rfl) ?_
  refine a_Iload C hW (j := gt) (mK_12 hR.1) (mN_12 hR.1) rfl (by omega) (by omega) dX11_sendGrant_28 ?_
  refine top_i (show aI S (t 12) gt = g.1 12 gt from hR.i 12 gt) ?_
  refine lv_aload_n hx hb dX11_sendGrant_29 rfl (lv_at hl 2 rfl) ?_
  refine g_1113 C hinX11 hW hR.1.1 (mA_13 hR.1) l45 dX11_sendGrant_30 ?_
  refine lv_iload_n hx hb dX11_sendGrant_33 rfl (lv_at hl 1 rfl) ?_
  refine a_Iload C hW (j := ((8 * gt) + kk)) (mK_13 hR.1) (mN_13 hR.1) rfl (by omega) (by omega) dX11_sendGrant_34 ?_
  refine top_i (show aI S (t 13) ((8 * gt) + kk) = g.1 13 ((8 * gt) + kk) from hR.i 13 ((8 * gt) + kk)) ?_
  refine lv_aload_n hx hb dX11_sendGrant_35 rfl (lv_at hl 2 rfl) ?_
  refine g_1114 C hinX11 hW hR.1.1 (mA_14 hR.1) l48 dX11_sendGrant_36 ?_
  refine lv_iload_n hx hb dX11_sendGrant_39 rfl (lv_at hl 1 rfl) ?_
  refine a_Iload C hW (j := ((8 * gt) + kk)) (mK_14 hR.1) (mN_14 hR.1) rfl (by omega) (by omega) dX11_sendGrant_40 ?_
  refine top_i (show aI S (t 14) ((8 * gt) + kk) = g.1 14 ((8 * gt) + kk) from hR.i 14 ((8 * gt) + kk)) ?_
  refine k_callVi (As := [.int 1, .int (nI gt), .int (nI kk), .int (g.1 15 ((8 * gt) + kk)), .int (g.1 12 gt), .int (g.1 13 ((8 * gt) + kk)), .int (g.1 14 ((8 * gt) + kk))]) (rest := []) C hml (c_X11_send hR hm) (cwV 7 hts gX11_sendGrant_X11_send rfl rfl rfl (by decide +kernel) ⟨by decide, by decide⟩) hW hS hB (hR.1.1).1 (pAt_11 (hR.1.1).2) rfl rfl hl.1 rfl (Nat.le_of_ble_eq_true rfl) dX11_sendGrant_41 ⟨Nat.le_of_ble_eq_true rfl, Nat.le_of_ble_eq_true rfl⟩ (fun r9 S1 H locs hp9 hW hS => ?_)
  obtain ⟨hO9, hR, e9⟩ := hp9
  replace hO := hO.tr hO9
  subst e9
  clear hO9
  refine lv_if_le (tgt := 66) hx hb dX11_sendGrant_44 (by decide) (fun c_44 => ?_) (fun c_44 => ?_)
  · exact k_vret C hr hlk hW hS hB ⟨hO, by rw [mSG, if_neg (Int32.not_lt.mpr c_44)]; exact hR⟩ (Nat.le_refl _) (Nat.le_refl _) dX11_sendGrant_66
  · have hlt9 := mSend_lt hm (Int32.not_le.mp c_44)
    refine lv_aload_n hx hb dX11_sendGrant_47 rfl (lv_at hl 2 rfl) ?_
    refine g_1132 C hinX11 hW hR.1.1 (mA_32 hR.1) l100 dX11_sendGrant_48 ?_
    refine lv_bipush (v := 8) hx hb dX11_sendGrant_51 (by decide) ?_
    refine lv_iload hx hb dX11_sendGrant_53 (lv_at hl 0 rfl) ?_
    refine lv_imul hx hb dX11_sendGrant_55 ?_
    refine top_i (show 8 * (nI (mqN g)) = nI (8 * (mqN g)) from pk_mul 8 (mqN g)) ?_
    refine lv_bipush (v := 7) hx hb dX11_sendGrant_56 (by decide) ?_
    refine lv_iadd hx hb dX11_sendGrant_58 ?_
    refine top_i (show (nI (8 * (mqN g))) + 7 = nI ((8 * (mqN g)) + 7) from nI_add (8 * (mqN g)) 7) ?_
    refine lv_aload_n hx hb dX11_sendGrant_59 rfl (lv_at hl 2 rfl) ?_
    refine g_1116 C hinX11 hW hR.1.1 (mA_16 hR.1) l54 dX11_sendGrant_60 ?_
    refine lv_iload_n hx hb dX11_sendGrant_63 rfl (lv_at hl 1 rfl) ?_
    refine a_Iload C hW (j := ((8 * gt) + kk)) (mK_16 hR.1) (mN_16 hR.1) rfl (by omega) (by omega) dX11_sendGrant_64 ?_
    refine top_i (show aI S1 (t 16) ((8 * gt) + kk) = ((mSend g 1 (nI gt) (nI kk) (g.1 15 ((8 * gt) + kk)) (g.1 12 gt) (g.1 13 ((8 * gt) + kk)) (g.1 14 ((8 * gt) + kk))).1).1 16 ((8 * gt) + kk) from hR.i 16 ((8 * gt) + kk)) ?_
    refine a_Istore C hW hS (j := ((8 * (mqN g)) + 7)) (mK_32 hR.1) (mN_32 hR.1) rfl (by omega) (by omega) dX11_sendGrant_65 (fun S2 H locs e1 hW hS => ?_)
    have hR : MR S2 a0 t (iI ((mSend g 1 (nI gt) (nI kk) (g.1 15 ((8 * gt) + kk)) (g.1 12 gt) (g.1 13 ((8 * gt) + kk)) (g.1 14 ((8 * gt) + kk))).1) 32 ((8 * (mqN g)) + 7) (((mSend g 1 (nI gt) (nI kk) (g.1 15 ((8 * gt) + kk)) (g.1 12 gt) (g.1 13 ((8 * gt) + kk)) (g.1 14 ((8 * gt) + kk))).1).1 16 ((8 * gt) + kk))) := by rw [e1]; exact hR.wI
    replace hO : MO S S2 a0 t := by rw [e1]; exact hO.wI
    clear e1
    exact k_vret C hr hlk hW hS hB ⟨hO, by rw [mSG, if_pos (Int32.not_le.mp c_44)]; exact hR⟩ (Nat.le_refl _) (Nat.le_refl _) dX11_sendGrant_66
