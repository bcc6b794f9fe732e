theorem iI_comm {g : MS} {j i k z : Nat} {v u : Int32} (h : j ≠ k) : iI (iI g j i v) k z u = iI (iI g k z u) j i v := by
  refine Prod.ext (funext fun a => ?_) rfl
  show va_up (va_up g.1 j (va_up (g.1 j) i v)) k (va_up (va_up g.1 j (va_up (g.1 j) i v) k) z u) a = va_up (va_up g.1 k (va_up (g.1 k) z u)) j (va_up (va_up g.1 k (va_up (g.1 k) z u) j) i v) a
  rw [va_up_ne g.1 _ (fun e => h e.symm), va_up_ne g.1 _ h]
  by_cases e1 : a = j
  · subst e1; rw [up_same, va_up_ne _ _ h, up_same]
  · by_cases e2 : a = k
    · subst e2; rw [up_same, va_up_ne _ _ e1, up_same]
    · rw [va_up_ne _ _ e2, va_up_ne _ _ e1, va_up_ne _ _ e1, va_up_ne _ _ e2]
theorem mBest_26 (g : MS) (i : Nat) (v : Int32) (gt kk n : Nat) : mBest (iI g 26 i v) gt kk n = mBest g gt kk n := by
  induction n with
  | zero => rfl
  | succ n ih => rw [mBest, mBest, ih]; rfl
theorem mTk2_26 (g : MS) (i : Nat) (v : Int32) (b : Nat) (x : Int32) : mTk2 (iI g 26 i v) b x = iI (mTk2 g b x) 26 i v := by
  unfold mTk2
  show (if g.1 28 b - x = 0 then iI (iI (iI g 26 i v) 28 b (g.1 28 b - x)) 27 b 0 else iI (iI g 26 i v) 28 b (g.1 28 b - x)) = _
  split
  · rw [iI_comm (j := 26) (k := 28) (by decide), iI_comm (j := 26) (k := 27) (by decide)]
  · rw [iI_comm (j := 26) (k := 28) (by decide)]
theorem mTkD_26 (gt kk n : Nat) (i : Nat) (v : Int32) : ∀ (fu : Nat) (g : MS) (x : Int32), mTkD gt kk n fu (iI g 26 i v) x = iI (mTkD gt kk n fu g x) 26 i v := by
  intro fu
  induction fu with
  | zero => intro g x; rfl
  | succ fu ih =>
    intro g x
    rw [mTkD, mTkD]
    split
    · rw [mTkS, mTkS, mBest_26, show mTk1 (iI g 26 i v) = mTk1 g from rfl, mTk2_26, ih]
    · rfl
def mSpend (g : MS) (n gt kk : Nat) (x : Int32) : MS × Int32 :=
  if mLiveSum (iI g 22 (8 * gt + kk) (g.1 22 (8 * gt + kk) + x)) gt kk n < x then (iI (iI g 22 (8 * gt + kk) (g.1 22 (8 * gt + kk) + x)) 26 (8 * gt + kk) (g.1 26 (8 * gt + kk) + 1), 0)
  else (iI (mTkD gt kk n 10001 (iI g 22 (8 * gt + kk) (g.1 22 (8 * gt + kk) + x)) x) 26 (8 * gt + kk) 0, 1)
theorem mSpend_a {g : MS} {n gt kk : Nat} {x : Int32} (h : mLiveSum (iI g 22 (8 * gt + kk) (g.1 22 (8 * gt + kk) + x)) gt kk n < x) : mSpend g n gt kk x = (iI (iI g 22 (8 * gt + kk) (g.1 22 (8 * gt + kk) + x)) 26 (8 * gt + kk) (g.1 26 (8 * gt + kk) + 1), 0) := if_pos h
theorem mSpend_b {g : MS} {n gt kk : Nat} {x : Int32} (h : ¬ mLiveSum (iI g 22 (8 * gt + kk) (g.1 22 (8 * gt + kk) + x)) gt kk n < x) : mSpend g n gt kk x = (iI (mTkD gt kk n 10001 (iI g 22 (8 * gt + kk) (g.1 22 (8 * gt + kk) + x)) x) 26 (8 * gt + kk) 0, 1) := if_neg h
theorem liveI_26 (g : MS) (i : Nat) (v : Int32) (gt kk n : Nat) : liveI (iI g 26 i v) gt kk n = liveI g gt kk n := by
  induction n with
  | zero => rfl
  | succ n ih => rw [liveI, liveI, ih]; rfl
set_option maxRecDepth 100000 in
set_option maxHeartbeats 1000000 in
theorem c_X2_spend {l : Launch} {D : va_G} {cy : Nat → ClassId} {B : Nat} {s0 : State} {S : PS} {y : Nat → Nat} {dE mi : Nat} {g : MS} {c0 : CS} {gt kk : Nat} {x : Int32} {n : Nat} (hC : CR S y dE g c0) (hE : EnvC dE mi B s0) (hg : gt < 6) (hk : kk < 8) (hn3 : n ≤ 300) (hL : cP c0 (8 * gt + kk) = hs g gt kk n) (hk0 : HOk g gt kk n) (hT0 : ∀ h, h < n → mHold g gt kk h → HT g h) (hct : CT g gt) (hx9 : 1 ≤ x.toInt ∧ x.toInt ≤ 10000) : KI l yX2_spend wsX2_spend ({ frames := 5, cells := 0, slots := 0, locals := 133 }) D cy B s0 [.ref (y (100 + (8 * gt + kk))), .int x, .int (mClk g gt)] S (fun r S2 => ∃ c2, CF S S2 y ∧ CR S2 y dE (mSpend g n gt kk x).1 c2 ∧ CsD c0 c2 (8 * gt + kk) (hs (mSpend g n gt kk x).1 gt kk n) ∧ r = (mSpend g n gt kk x).2) 0 0 := by
  refine k_body (own := RX2) (cc := cX2_spend) (maxL := 3) (ret := (some .boolean)) rfl (by decide) rfl (Nat.le_of_ble_eq_true rfl) ?_
  intro p e s m below meth c C hml hr hlk hnm hB hW ls hl
  obtain ⟨hx, hb, hts, hown, hK, hEn⟩ := id C
  have hS : va_S (Aw B) s.heap s.heap [] := va_S.rf
  have hinX2 : ∀ w ∈ wsX20, w ∈ wsX2_spend := by decide +kernel
  have l31 : Cond.fieldLink RX2 31 "LeaseGates$Desk" "use" "I" ∈ wsX2_spend := by decide +kernel
  have l44 : Cond.fieldLink RX2 44 "LeaseGates$Desk" "refusals" "I" ∈ wsX2_spend := by decide +kernel
  have hl : lv_has ls 3 [(0, .ref (y (100 + (8 * gt + kk)))), (1, .int x), (2, .int (mClk g gt))] := hl
  have hF : CF S S y := CF.rf
  refine lv_aload_n hx hb dX2_spend_0 rfl (lv_at hl 0 rfl) ?_
  refine lv_dup hx hb dX2_spend_1 rfl ?_
  refine g_204 C hinX2 hW (hC.1.lay.ek (8 * gt + kk) (by omega)) l31 dX2_spend_2 ?_
  refine top_i (show fI S 204 (y (100 + (8 * gt + kk))) = g.1 22 (8 * gt + kk) from hC.1.d4 (8 * gt + kk) (by omega)) ?_
  refine lv_iload_n hx hb dX2_spend_5 rfl (lv_at hl 1 rfl) ?_
  refine lv_iadd hx hb dX2_spend_6 ?_
  refine p_204 C hinX2 hW hS (hC.1.lay.ek (8 * gt + kk) (by omega)) l31 dX2_spend_7 (fun S1 H locs e1 hW hS => ?_)
  have hF9 : CF S S1 y := by rw [e1]; exact hF.sI (hC.1.lay.ek (8 * gt + kk) (by omega)) (by decide)
  have hC9 : CR S1 y dE (iI g 22 (8 * gt + kk) ((g.1 22 (8 * gt + kk)) + x)) c0 := by rw [e1]; exact hC.wd4
  clear hC hF e1
  have hF := hF9
  have hC := hC9
  clear hC9 hF9
  refine lv_aload_n hx hb dX2_spend_10 rfl (lv_at hl 0 rfl) ?_
  refine lv_iload_n hx hb dX2_spend_11 rfl (lv_at hl 2 rfl) ?_
  refine k_callVi (As := [.int (mClk g gt)]) (rest := []) C hml (c_X2_liveTokens hC hE hg hk hL) (cwV 1 hts gX2_spend_X2_liveTokens rfl rfl rfl (by decide +kernel) ⟨by decide, by decide⟩) hW hS hB ((hC.1.lay.ek (8 * gt + kk) (by omega))).1 (pAt_2 ((hC.1.lay.ek (8 * gt + kk) (by omega))).2) rfl rfl hl.1 rfl (Nat.le_of_ble_eq_true rfl) dX2_spend_12 ⟨Nat.le_of_ble_eq_true rfl, Nat.le_of_ble_eq_true rfl⟩ (fun r9 S2 H locs hp9 hW hS => ?_)
  obtain ⟨e8, e9⟩ := hp9
  rw [e8] at hW
  replace e9 := e9.trans (lSum_hs (iI g 22 (8 * gt + kk) (g.1 22 (8 * gt + kk) + x)) gt kk n)
  subst e9
  refine lv_iload_n hx hb dX2_spend_15 rfl (lv_at hl 1 rfl) ?_
  refine lv_icmp_ge (tgt := 31) hx hb dX2_spend_16 (by decide) (fun c_16 => ?_) (fun c_16 => ?_)
  · have q_16 := Int32.not_lt.mpr c_16
    have hl9 : x.toInt ≤ liveI (iI (iI g 22 (8 * gt + kk) (g.1 22 (8 * gt + kk) + x)) 26 (8 * gt + kk) 0) gt kk n := by
      have z := c_16
      rw [Int32.le_iff_toInt_le, (live_I (g := (iI g 22 (8 * gt + kk) (g.1 22 (8 * gt + kk) + x))) hk0 hn3 n (Nat.le_refl _)).1] at z
      rw [show liveI (iI (iI g 22 (8 * gt + kk) (g.1 22 (8 * gt + kk) + x)) 26 (8 * gt + kk) 0) gt kk n = liveI (iI g 22 (8 * gt + kk) (g.1 22 (8 * gt + kk) + x)) gt kk n from liveI_26 _ _ _ _ _ _]
      exact z
    refine lv_aload_n hx hb dX2_spend_31 rfl (lv_at hl 0 rfl) ?_
    refine lv_iconst (v := 0) hx hb dX2_spend_32 (by decide) ?_
    refine p_208 C hinX2 hW hS (hC.1.lay.ek (8 * gt + kk) (by omega)) l44 dX2_spend_33 (fun S3 H locs e1 hW hS => ?_)
    have hF9 : CF S S3 y := by rw [e1]; exact hF.sI (hC.1.lay.ek (8 * gt + kk) (by omega)) (by decide)
    have hC9 : CR S3 y dE (iI (iI g 22 (8 * gt + kk) ((g.1 22 (8 * gt + kk)) + x)) 26 (8 * gt + kk) 0) c0 := by rw [e1]; exact hC.wd8
    clear hC hF e1
    have hF := hF9
    have hC := hC9
    clear hC9 hF9
    refine lv_aload_n hx hb dX2_spend_36 rfl (lv_at hl 0 rfl) ?_
    refine lv_iload_n hx hb dX2_spend_37 rfl (lv_at hl 1 rfl) ?_
    refine lv_iload_n hx hb dX2_spend_38 rfl (lv_at hl 2 rfl) ?_
    refine k_callVv (As := [.int x, .int (mClk g gt)]) (rest := []) C hml (c_X2_takeOut (g := iI (iI g 22 (8 * gt + kk) (g.1 22 (8 * gt + kk) + x)) 26 (8 * gt + kk) 0) hC hE hg hk hn3 hL hk0 hT0 hct hx9 hl9) (cwV 2 hts gX2_spend_X2_takeOut rfl rfl rfl (by decide +kernel) ⟨by decide, by decide⟩) hW hS hB ((hC.1.lay.ek (8 * gt + kk) (by omega))).1 (pAt_2 ((hC.1.lay.ek (8 * gt + kk) (by omega))).2) rfl rfl hl.1 rfl (Nat.le_of_ble_eq_true rfl) dX2_spend_39 ⟨Nat.le_of_ble_eq_true rfl, Nat.le_of_ble_eq_true rfl⟩ (fun S4 H locs hp9 hW hS => ?_)
    obtain ⟨c9, f9, k9, d9⟩ := hp9
    rw [mTkD_26] at k9 d9
    have hD9 : CsD c0 c9 (8 * gt + kk) (hs (iI (mTkD gt kk n 10001 (iI g 22 (8 * gt + kk) (g.1 22 (8 * gt + kk) + x)) x) 26 (8 * gt + kk) 0) gt kk n) := d9
    have hF9 := hF.tr f9
    clear hF hC d9
    have hC := k9
    have hF := hF9
    refine lv_iconst (v := 1) hx hb dX2_spend_42 (by decide) ?_
    exact k_zret C hr hlk hW hS hB ⟨c9, hF, by rw [mSpend_b q_16]; exact hC, by rw [mSpend_b q_16]; exact hD9, by rw [mSpend_b q_16]⟩ (by decide) (Nat.le_refl _) (Nat.le_refl _) dX2_spend_43
  · have q_16 := Int32.not_le.mp c_16
    refine lv_aload_n hx hb dX2_spend_19 rfl (lv_at hl 0 rfl) ?_
    refine lv_dup hx hb dX2_spend_20 rfl ?_
    refine g_208 C hinX2 hW (hC.1.lay.ek (8 * gt + kk) (by omega)) l44 dX2_spend_21 ?_
    refine top_i (show fI S1 208 (y (100 + (8 * gt + kk))) = (iI g 22 (8 * gt + kk) ((g.1 22 (8 * gt + kk)) + x)).1 26 (8 * gt + kk) from hC.1.d8 (8 * gt + kk) (by omega)) ?_
    refine lv_iconst (v := 1) hx hb dX2_spend_24 (by decide) ?_
    refine lv_iadd hx hb dX2_spend_25 ?_
    refine p_208 C hinX2 hW hS (hC.1.lay.ek (8 * gt + kk) (by omega)) l44 dX2_spend_26 (fun S5 H locs e1 hW hS => ?_)
    have hF9 : CF S S5 y := by rw [e1]; exact hF.sI (hC.1.lay.ek (8 * gt + kk) (by omega)) (by decide)
    have hC9 : CR S5 y dE (iI (iI g 22 (8 * gt + kk) ((g.1 22 (8 * gt + kk)) + x)) 26 (8 * gt + kk) (((iI g 22 (8 * gt + kk) ((g.1 22 (8 * gt + kk)) + x)).1 26 (8 * gt + kk)) + 1)) c0 := by rw [e1]; exact hC.wd8
    clear hC hF e1
    have hF := hF9
    have hC := hC9
    clear hC9 hF9
    refine lv_iconst (v := 0) hx hb dX2_spend_29 (by decide) ?_
    exact k_zret C hr hlk hW hS hB ⟨c0, hF, by rw [mSpend_a q_16]; exact hC, by rw [mSpend_a q_16, ← (show cP c0 (8 * gt + kk) = hs (iI (iI g 22 (8 * gt + kk) (g.1 22 (8 * gt + kk) + x)) 26 (8 * gt + kk) (g.1 26 (8 * gt + kk) + 1)) gt kk n from hL)]; exact CsD.rf, by rw [mSpend_a q_16]⟩ (by decide) (Nat.le_refl _) (Nat.le_refl _) dX2_spend_30
def kClr (g : MS) (d : Nat) : MS := iI (iI (iI (iI (iI (iI g 21 d 0) 22 d 0) 23 d 0) 24 d 0) 25 d 0) 26 d 0
set_option maxRecDepth 100000 in
set_option maxHeartbeats 1000000 in
theorem c_X2_clear {l : Launch} {D : va_G} {cy : Nat → ClassId} {B : Nat} {s0 : State} {S : PS} {y : Nat → Nat} {dE mi : Nat} {g : MS} {c0 : CS} {gt kk : Nat}  (hC : CR S y dE g c0) (hE : EnvC dE mi B s0) (hg : gt < 6) (hk : kk < 8)  : KV l yX2_clear wsX2_clear ({ frames := 1, cells := 0, slots := 0, locals := 23 }) D cy B s0 [.ref (y (100 + (8 * gt + kk)))] S (fun S2 => ∃ c2, CF S S2 y ∧ CR S2 y dE (kClr g (8 * gt + kk)) c2 ∧ CsD c0 c2 (8 * gt + kk) []) 0 0 := by
  refine k_body (own := RX2) (cc := cX2_clear) (maxL := 1) (ret := none) rfl (by decide) rfl (Nat.le_of_ble_eq_true rfl) ?_
  intro p e s m below meth c C hml hr hlk hnm hB hW ls hl
  obtain ⟨hx, hb, hts, hown, hK, hEn⟩ := id C
  have hS : va_S (Aw B) s.heap s.heap [] := va_S.rf
  have hinX2 : ∀ w ∈ wsX20, w ∈ wsX2_clear := by decide +kernel
  have l12 : Cond.fieldLink RX2 12 "LeaseGates$Desk" "holds" "Ljava/util/ArrayList;" ∈ wsX2_clear := by decide +kernel
  have l28 : Cond.fieldLink RX2 28 "LeaseGates$Desk" "demand" "I" ∈ wsX2_clear := by decide +kernel
  have l31 : Cond.fieldLink RX2 31 "LeaseGates$Desk" "use" "I" ∈ wsX2_clear := by decide +kernel
  have l34 : Cond.fieldLink RX2 34 "LeaseGates$Desk" "asks" "I" ∈ wsX2_clear := by decide +kernel
  have l37 : Cond.fieldLink RX2 37 "LeaseGates$Desk" "open" "Z" ∈ wsX2_clear := by decide +kernel
  have l41 : Cond.fieldLink RX2 41 "LeaseGates$Desk" "openSince" "I" ∈ wsX2_clear := by decide +kernel
  have l44 : Cond.fieldLink RX2 44 "LeaseGates$Desk" "refusals" "I" ∈ wsX2_clear := by decide +kernel
  have hl : lv_has ls 1 [(0, .ref (y (100 + (8 * gt + kk))))] := hl
  have hF : CF S S y := CF.rf
  refine lv_aload_n hx hb dX2_clear_0 rfl (lv_at hl 0 rfl) ?_
  refine g_202 C hinX2 hW (hC.1.lay.ek (8 * gt + kk) (by omega)) (hC.1.lay.r202 (8 * gt + kk) (by omega)) l12 dX2_clear_1 ?_
  refine k_callVv (As := []) (rest := []) C hml (c_Jx4a65c_clear_da8c8 (hC.2.hl (8 * gt + kk) (by omega))) (cwV 0 hts gX2_clear_Jx4a65c_clear_da8c8 rfl rfl rfl (by decide +kernel) ⟨by decide, by decide⟩) hW hS hB ((hC.2.hl (8 * gt + kk) (by omega)).1).1 (pAt_12 ((hC.2.hl (8 * gt + kk) (by omega)).1).2) rfl rfl hl.1 rfl (Nat.le_of_ble_eq_true rfl) dX2_clear_4 ⟨Nat.le_of_ble_eq_true rfl, Nat.le_of_ble_eq_true rfl⟩ (fun S1 H locs hp9 hW hS => ?_)
  obtain ⟨o9, a9⟩ := hp9
  have hfr : Fr S S1 (fun b => b = y (200 + (8 * gt + kk)) ∨ b = cA c0 (8 * gt + kk)) := o9.fr (Or.inl rfl) (Or.inl (Or.inr rfl))
  have hF9 : CF S S1 y := hF.tr (CF.lk hfr (LK_list hC.2 (by omega) (hC.2.hl (8 * gt + kk) (by omega)).1))
  have hC9 : CR S1 y dE g (csP c0 (8 * gt + kk) (cA c0 (8 * gt + kk)) []) := hC.hlist (L := []) (by omega) hfr a9 (Or.inl rfl) (hW.nd hE.1.2.2) (fun x hx => absurd hx List.not_mem_nil)
  clear hC hF
  have hC := hC9
  have hF := hF9
  refine lv_aload_n hx hb dX2_clear_7 rfl (lv_at hl 0 rfl) ?_
  refine lv_iconst (v := 0) hx hb dX2_clear_8 (by decide) ?_
  refine p_203 C hinX2 hW hS (hC.1.lay.ek (8 * gt + kk) (by omega)) l28 dX2_clear_9 (fun S2 H locs e1 hW hS => ?_)
  have hF9 : CF S S2 y := by rw [e1]; exact hF.sI (hC.1.lay.ek (8 * gt + kk) (by omega)) (by decide)
  have hC9 : CR S2 y dE (iI g 21 (8 * gt + kk) 0) (csP c0 (8 * gt + kk) (cA c0 (8 * gt + kk)) []) := by rw [e1]; exact hC.wd3
  clear hC hF e1
  have hF := hF9
  have hC := hC9
  clear hC9 hF9
  refine lv_aload_n hx hb dX2_clear_12 rfl (lv_at hl 0 rfl) ?_
  refine lv_iconst (v := 0) hx hb dX2_clear_13 (by decide) ?_
  refine p_204 C hinX2 hW hS (hC.1.lay.ek (8 * gt + kk) (by omega)) l31 dX2_clear_14 (fun S3 H locs e1 hW hS => ?_)
  have hF9 : CF S S3 y := by rw [e1]; exact hF.sI (hC.1.lay.ek (8 * gt + kk) (by omega)) (by decide)
  have hC9 : CR S3 y dE (iI (iI g 21 (8 * gt + kk) 0) 22 (8 * gt + kk) 0) (csP c0 (8 * gt + kk) (cA c0 (8 * gt + kk)) []) := by rw [e1]; exact hC.wd4
  clear hC hF e1
  have hF := hF9
  have hC := hC9
  clear hC9 hF9
  refine lv_aload_n hx hb dX2_clear_17 rfl (lv_at hl 0 rfl) ?_
  refine lv_iconst (v := 0) hx hb dX2_clear_18 (by decide) ?_
  refine p_205 C hinX2 hW hS (hC.1.lay.ek (8 * gt + kk) (by omega)) l34 dX2_clear_19 (fun S4 H locs e1 hW hS => ?_)
  have hF9 : CF S S4 y := by rw [e1]; exact hF.sI (hC.1.lay.ek (8 * gt + kk) (by omega)) (by decide)
  have hC9 : CR S4 y dE (iI (iI (iI g 21 (8 * gt + kk) 0) 22 (8 * gt + kk) 0) 23 (8 * gt + kk) 0) (csP c0 (8 * gt + kk) (cA c0 (8 * gt + kk)) []) := by rw [e1]; exact hC.wd5
  clear hC hF e1
  have hF := hF9
  have hC := hC9
  clear hC9 hF9
  refine lv_aload_n hx hb dX2_clear_22 rfl (lv_at hl 0 rfl) ?_
  refine lv_iconst (v := 0) hx hb dX2_clear_23 (by decide) ?_
  refine p_206 C hinX2 hW hS (by decide) (hC.1.lay.ek (8 * gt + kk) (by omega)) l37 dX2_clear_24 (fun S5 H locs e1 hW hS => ?_)
  have hF9 : CF S S5 y := by rw [e1]; exact hF.sI (hC.1.lay.ek (8 * gt + kk) (by omega)) (by decide)
  have hC9 : CR S5 y dE (iI (iI (iI (iI g 21 (8 * gt + kk) 0) 22 (8 * gt + kk) 0) 23 (8 * gt + kk) 0) 24 (8 * gt + kk) 0) (csP c0 (8 * gt + kk) (cA c0 (8 * gt + kk)) []) := by rw [e1]; exact hC.wd6
  clear hC hF e1
  have hF := hF9
  have hC := hC9
  clear hC9 hF9
  refine lv_aload_n hx hb dX2_clear_27 rfl (lv_at hl 0 rfl) ?_
  refine lv_iconst (v := 0) hx hb dX2_clear_28 (by decide) ?_
  refine p_207 C hinX2 hW hS (hC.1.lay.ek (8 * gt + kk) (by omega)) l41 dX2_clear_29 (fun S6 H locs e1 hW hS => ?_)
  have hF9 : CF S S6 y := by rw [e1]; exact hF.sI (hC.1.lay.ek (8 * gt + kk) (by omega)) (by decide)
  have hC9 : CR S6 y dE (iI (iI (iI (iI (iI g 21 (8 * gt + kk) 0) 22 (8 * gt + kk) 0) 23 (8 * gt + kk) 0) 24 (8 * gt + kk) 0) 25 (8 * gt + kk) 0) (csP c0 (8 * gt + kk) (cA c0 (8 * gt + kk)) []) := by rw [e1]; exact hC.wd7
  clear hC hF e1
  have hF := hF9
  have hC := hC9
  clear hC9 hF9
  refine lv_aload_n hx hb dX2_clear_32 rfl (lv_at hl 0 rfl) ?_
  refine lv_iconst (v := 0) hx hb dX2_clear_33 (by decide) ?_
  refine p_208 C hinX2 hW hS (hC.1.lay.ek (8 * gt + kk) (by omega)) l44 dX2_clear_34 (fun S7 H locs e1 hW hS => ?_)
  have hF9 : CF S S7 y := by rw [e1]; exact hF.sI (hC.1.lay.ek (8 * gt + kk) (by omega)) (by decide)
  have hC9 : CR S7 y dE (iI (iI (iI (iI (iI (iI g 21 (8 * gt + kk) 0) 22 (8 * gt + kk) 0) 23 (8 * gt + kk) 0) 24 (8 * gt + kk) 0) 25 (8 * gt + kk) 0) 26 (8 * gt + kk) 0) (csP c0 (8 * gt + kk) (cA c0 (8 * gt + kk)) []) := by rw [e1]; exact hC.wd8
  clear hC hF e1
  have hF := hF9
  have hC := hC9
  clear hC9 hF9
  exact k_vret C hr hlk hW hS hB ⟨csP c0 (8 * gt + kk) (cA c0 (8 * gt + kk)) [], hF, hC, CsD.rf.p⟩ (Nat.le_refl _) (Nat.le_refl _) dX2_clear_37
def kAcc (g : MS) (gt kk h : Nat) (tok cnt len : Int32) : MS × Int32 :=
  if ¬ g.1 24 (8 * gt + kk) = 0 ∧ cnt = g.1 23 (8 * gt + kk) then
    (if 0 < tok then iI (iI (iI (iI (iI g 24 (8 * gt + kk) 0) 27 h (nI (gt + 1))) 28 h tok) 29 h (g.1 25 (8 * gt + kk))) 30 h len else iI g 24 (8 * gt + kk) 0, 1)
  else (g, 0)
theorem kAcc_a {g : MS} {gt kk h : Nat} {tok cnt len : Int32} (z1 : ¬ g.1 24 (8 * gt + kk) = 0) (z2 : cnt = g.1 23 (8 * gt + kk)) (z3 : 0 < tok) : kAcc g gt kk h tok cnt len = (iI (iI (iI (iI (iI g 24 (8 * gt + kk) 0) 27 h (nI (gt + 1))) 28 h tok) 29 h (g.1 25 (8 * gt + kk))) 30 h len, 1) := by rw [kAcc, if_pos ⟨z1, z2⟩, if_pos z3]
theorem kAcc_b {g : MS} {gt kk h : Nat} {tok cnt len : Int32} (z1 : ¬ g.1 24 (8 * gt + kk) = 0) (z2 : cnt = g.1 23 (8 * gt + kk)) (z3 : ¬ 0 < tok) : kAcc g gt kk h tok cnt len = (iI g 24 (8 * gt + kk) 0, 1) := by rw [kAcc, if_pos ⟨z1, z2⟩, if_neg z3]
theorem kAcc_c {g : MS} {gt kk h : Nat} {tok cnt len : Int32} (z : ¬ (¬ g.1 24 (8 * gt + kk) = 0 ∧ cnt = g.1 23 (8 * gt + kk))) : kAcc g gt kk h tok cnt len = (g, 0) := if_neg z
/-- the list behind an accepted grant -/
def kAccL (g : MS) (d h : Nat) (tok cnt : Int32) (L : List Nat) : List Nat := if (¬ g.1 24 d = 0 ∧ cnt = g.1 23 d) ∧ 0 < tok then L ++ [h] else L
theorem ADDP.fr {S S2 : PS} {dE a ea x : Nat} {L : List Nat} (h : ADDP S S2 dE a ea L x) : Fr S S2 (fun b => b = a ∨ b = ea) := by
  obtain ⟨_, _, _, _, z⟩ := h; exact z
set_option maxRecDepth 100000 in
set_option maxHeartbeats 1000000 in
theorem c_X2_accept {l : Launch} {D : va_G} {cy : Nat → ClassId} {B : Nat} {s0 : State} {S : PS} {y : Nat → Nat} {dE mi : Nat} {g : MS} {c0 : CS} {gt kk : Nat} {b h : Nat} {x0 x1 x2 x3 x4 x5 x6 x7 : Int32} (hC : CR S y dE g c0) (hE : EnvC dE mi B s0) (hg : gt < 6) (hk : kk < 8) (hM : MsgAt S b x0 x1 x2 x3 x4 x5 x6 x7) (hl0 : (cP c0 (8 * gt + kk)).length < 400) (hnum : 0 < x4 → ¬ g.1 24 (8 * gt + kk) = 0 → x5 = g.1 23 (8 * gt + kk) → h < 300 ∧ x6 = nI h ∧ ∀ j, j < 48 → h ∉ cP c0 j) : KI l yX2_accept wsX2_accept ({ frames := 7, cells := 2, slots := 1104, locals := 191 }) D cy B s0 [.ref (y (100 + (8 * gt + kk))), .ref b] S (fun r S2 => ∃ c2, CF S S2 y ∧ CR S2 y dE (kAcc g gt kk h x4 x5 x7).1 c2 ∧ CsD c0 c2 (8 * gt + kk) (kAccL g (8 * gt + kk) h x4 x5 (cP c0 (8 * gt + kk))) ∧ r = (kAcc g gt kk h x4 x5 x7).2) 2 1104 := by
  refine k_body (own := RX2) (cc := cX2_accept) (maxL := 2) (ret := (some .boolean)) rfl (by decide) rfl (Nat.le_of_ble_eq_true rfl) ?_
  intro p e s m below meth c C hml hr hlk hnm hB hW ls hl
  obtain ⟨hx, hb, hts, hown, hK, hEn⟩ := id C
  have hS : va_S (Aw B) s.heap s.heap [] := va_S.rf
  have hinX2 : ∀ w ∈ wsX20, w ∈ wsX2_accept := by decide +kernel
  have hinX4 : ∀ w ∈ wsX40, w ∈ wsX2_accept := by decide +kernel
  have hinX6 : ∀ w ∈ wsX60, w ∈ wsX2_accept := by decide +kernel
  have l12 : Cond.fieldLink RX2 12 "LeaseGates$Desk" "holds" "Ljava/util/ArrayList;" ∈ wsX2_accept := by decide +kernel
  have l34 : Cond.fieldLink RX2 34 "LeaseGates$Desk" "asks" "I" ∈ wsX2_accept := by decide +kernel
  have l37 : Cond.fieldLink RX2 37 "LeaseGates$Desk" "open" "Z" ∈ wsX2_accept := by decide +kernel
  have l41 : Cond.fieldLink RX2 41 "LeaseGates$Desk" "openSince" "I" ∈ wsX2_accept := by decide +kernel
  have l115 : Cond.fieldLink RX2 115 "LeaseGates$Message" "count" "I" ∈ wsX2_accept := by decide +kernel
  have l118 : Cond.fieldLink RX2 118 "LeaseGates$Message" "tokens" "I" ∈ wsX2_accept := by decide +kernel
  have hl : lv_has ls 2 [(0, .ref (y (100 + (8 * gt + kk)))), (1, .ref b)] := hl
  have hF : CF S S y := CF.rf
  refine lv_aload_n hx hb dX2_accept_0 rfl (lv_at hl 0 rfl) ?_
  refine g_206 C hinX2 hW (hC.1.lay.ek (8 * gt + kk) (by omega)) l37 dX2_accept_1 ?_
  refine top_i (show fI S 206 (y (100 + (8 * gt + kk))) = g.1 24 (8 * gt + kk) from hC.1.d6 (8 * gt + kk) (by omega)) ?_
  refine lv_if_eq (tgt := 18) hx hb dX2_accept_4 (by decide) (fun c_4 => ?_) (fun c_4 => ?_)
  · refine lv_iconst (v := 0) hx hb dX2_accept_18 (by decide) ?_
    exact k_zret C hr hlk hW hS hB ⟨c0, hF, by rw [kAcc_c (fun z => z.1 c_4)]; exact hC, by rw [kAccL, if_neg (fun z => z.1.1 c_4)]; exact CsD.rf, by rw [kAcc_c (fun z => z.1 c_4)]⟩ (by decide) (Nat.le_of_ble_eq_true rfl) (Nat.le_of_ble_eq_true rfl) dX2_accept_19
  · refine lv_aload_n hx hb dX2_accept_7 rfl (lv_at hl 1 rfl) ?_
    refine g_605 C hinX6 hW hM.1 l115 dX2_accept_8 ?_
    refine top_i (show fI S 605 b = x5 from hM.2.2.2.2.2.2.1) ?_
    refine lv_aload_n hx hb dX2_accept_11 rfl (lv_at hl 0 rfl) ?_
    refine g_205 C hinX2 hW (hC.1.lay.ek (8 * gt + kk) (by omega)) l34 dX2_accept_12 ?_
    refine top_i (show fI S 205 (y (100 + (8 * gt + kk))) = g.1 23 (8 * gt + kk) from hC.1.d5 (8 * gt + kk) (by omega)) ?_
    refine lv_icmp_eq (tgt := 20) hx hb dX2_accept_15 (by decide) (fun c_15 => ?_) (fun c_15 => ?_)
    · refine lv_aload_n hx hb dX2_accept_20 rfl (lv_at hl 0 rfl) ?_
      refine lv_iconst (v := 0) hx hb dX2_accept_21 (by decide) ?_
      refine p_206 C hinX2 hW hS (by decide) (hC.1.lay.ek (8 * gt + kk) (by omega)) l37 dX2_accept_22 (fun S1 H locs e1 hW hS => ?_)
      have hF9 : CF S S1 y := by rw [e1]; exact hF.sI (hC.1.lay.ek (8 * gt + kk) (by omega)) (by decide)
      have hC9 : CR S1 y dE (iI g 24 (8 * gt + kk) 0) c0 := by rw [e1]; exact hC.wd6
      replace hM : MsgAt S1 b x0 x1 x2 x3 x4 x5 x6 x7 := by rw [e1]; exact hM
      clear hC hF e1
      have hF := hF9
      have hC := hC9
      clear hC9 hF9
      refine lv_aload_n hx hb dX2_accept_25 rfl (lv_at hl 1 rfl) ?_
      refine g_604 C hinX6 hW hM.1 l118 dX2_accept_26 ?_
      refine top_i (show fI S1 604 b = x4 from hM.2.2.2.2.2.1) ?_
      refine lv_if_le (tgt := 52) hx hb dX2_accept_29 (by decide) (fun c_29 => ?_) (fun c_29 => ?_)
      · refine lv_iconst (v := 1) hx hb dX2_accept_52 (by decide) ?_
        exact k_zret C hr hlk hW hS hB ⟨c0, hF, by rw [kAcc_b c_4 c_15 (Int32.not_lt.mpr c_29)]; exact hC, by rw [kAccL, if_neg (fun z => absurd z.2 (Int32.not_lt.mpr c_29))]; exact CsD.rf, by rw [kAcc_b c_4 c_15 (Int32.not_lt.mpr c_29)]⟩ (by decide) (Nat.le_of_ble_eq_true rfl) (Nat.le_of_ble_eq_true rfl) dX2_accept_53
      · refine lv_aload_n hx hb dX2_accept_32 rfl (lv_at hl 0 rfl) ?_
        refine g_202 C hinX2 hW (hC.1.lay.ek (8 * gt + kk) (by omega)) (hC.1.lay.r202 (8 * gt + kk) (by omega)) l12 dX2_accept_33 ?_
        refine n_4 C hinX4 hW hS hB (show Cond.classLink RX2 55 RX4 ∈ wsX2_accept by decide +kernel) (show Cond.instantiable RX4 4 ∈ wsX2_accept by decide +kernel) (show Cond.initialized RX4 ∈ wsX2_accept by decide +kernel) (Nat.le_of_ble_eq_true rfl) (Nat.le_of_ble_eq_true rfl) dX2_accept_36 (fun q S2 H e1 qn hW hS => ?_)
        have hC0 := hC
        have hF0 := hF
        have hM0 := hM
        replace hM : MsgAt S2 b x0 x1 x2 x3 x4 x5 x6 x7 := by rw [e1]; exact (Fr.nO (M := fun _ => False) Fr.rf qn).msg (fun _ _ z => z.elim) hM
        replace hC : CR S2 y dE (iI g 24 (8 * gt + kk) 0) c0 := hC.fr0 (by rw [e1]; exact Fr.rf.nO qn) (hW.nd hE.1.2.2)
        replace hF : CF S S2 y := by rw [e1]; exact hF.nO qn
        have hq : IsAt S2 4 q := by rw [e1]; exact nO_is
        have hnew : Fr S1 S2 (fun _ => False) := by rw [e1]; exact Fr.rf.nO qn
        clear e1
        refine lv_dup hx hb dX2_accept_39 rfl ?_
        refine lv_aload_n hx hb dX2_accept_40 rfl (lv_at hl 1 rfl) ?_
        refine lv_aload_n hx hb dX2_accept_41 rfl (lv_at hl 0 rfl) ?_
        refine g_207 C hinX2 hW (hC.1.lay.ek (8 * gt + kk) (by omega)) l41 dX2_accept_42 ?_
        refine top_i (show fI S2 207 (y (100 + (8 * gt + kk))) = (iI g 24 (8 * gt + kk) 0).1 25 (8 * gt + kk) from hC.1.d7 (8 * gt + kk) (by omega)) ?_
        refine k_callI (As := [.ref b, .int ((iI g 24 (8 * gt + kk) 0).1 25 (8 * gt + kk))]) (rest := [.ref q, .ref (y (200 + (8 * gt + kk)))]) C hml (c_X4_init hq hM) (cwI 2 hts ggX2_accept_X4_init rfl rfl rfl (hts (.initialized yX4_init.cls) (by decide +kernel)) (hts (.methodLink RX2 119 yX4_init) (by decide +kernel)) (hts (.instanceMethod yX4_init) (by decide +kernel)) rfl (by decide +kernel) ⟨by decide, by decide⟩) hW hS hB rfl hl.1 rfl (Nat.le_of_ble_eq_true rfl) dX2_accept_45 ⟨Nat.le_of_ble_eq_true rfl, Nat.le_of_ble_eq_true rfl⟩ (fun S3 H locs hp9 hW hS => ?_)
        have hfr : Fr S1 S3 (fun _ => False) := hnew.tr hp9.2 (fun b hb z => qn (by rw [← z]; exact hb))
        replace hC : CR S3 y dE (iI g 24 (8 * gt + kk) 0) c0 := hC0.fr0 hfr (hW.nd hE.1.2.2)
        replace hF : CF S S3 y := hF0.tr (CF.of hfr (fun b hb z => z.elim))
        replace hM : MsgAt S3 b x0 x1 x2 x3 x4 x5 x6 x7 := hfr.msg (fun _ _ z => z.elim) hM0
        clear hC0 hF0 hnew
        obtain ⟨hh3, e6, hnl⟩ := hnum (Int32.not_le.mp c_29) c_4 c_15
        have hC5 : CR S3 y dE (iI (iI (iI (iI (iI g 24 (8 * gt + kk) 0) 27 h (nI (gt + 1))) 28 h x4) 29 h (g.1 25 (8 * gt + kk))) 30 h x7) c0 := (((hC.g27 (i := h) (v := nI (gt + 1))).g28 (v := x4) hnl).g29 (v := g.1 25 (8 * gt + kk)) hnl).g30 (v := x7) hnl
        have hH : HAt S3 q h (iI (iI (iI (iI (iI g 24 (8 * gt + kk) 0) 27 h (nI (gt + 1))) 28 h x4) 29 h (g.1 25 (8 * gt + kk))) 30 h x7) := by
          obtain ⟨⟨u0, u1, u2, u3, u4⟩, -⟩ := hp9
          exact ⟨u0, u1.trans e6, u2.trans (iI_s (g := iI (iI (iI g 24 (8 * gt + kk) 0) 27 h (nI (gt + 1))) 28 h x4) (j := 29)).symm, u3.trans (by rw [show (iI (iI (iI (iI (iI g 24 (8 * gt + kk) 0) 27 h (nI (gt + 1))) 28 h x4) 29 h (g.1 25 (8 * gt + kk))) 30 h x7).1 30 h = x7 from iI_s]), u4.trans (iI_s (g := iI (iI g 24 (8 * gt + kk) 0) 27 h (nI (gt + 1))) (j := 28)).symm, hh3⟩
        refine k_callVi (As := [.ref q]) (rest := []) C hml (c_Jx4a65c_add_9ea2d hE.1 (hC.2.hl (8 * gt + kk) (by omega)) (by rw [List.length_map]; exact hl0) hH.1 ((hC.2.hl (8 * gt + kk) (by omega)).el (fun z hz => (hC.1.hv (8 * gt + kk) (by omega) z hz).1)) hE.2.1 hE.2.2.2.2.2.1 hE.2.2.2.2.2.2.1 hE.2.2.2.2.2.2.2) (cwV 1 hts gX2_accept_Jx4a65c_add_9ea2d rfl rfl rfl (by decide +kernel) ⟨by decide, by decide⟩) hW hS hB ((hC.2.hl (8 * gt + kk) (by omega)).1).1 (pAt_12 ((hC.2.hl (8 * gt + kk) (by omega)).1).2) rfl rfl hl.1 rfl (Nat.le_of_ble_eq_true rfl) dX2_accept_48 ⟨Nat.le_of_ble_eq_true rfl, Nat.le_of_ble_eq_true rfl⟩ (fun r9 S4 H locs hp9 hW hS => ?_)
        obtain ⟨a9, e9⟩ := hp9
        subst e9
        have hF9 : CF S S4 y := hF.tr (CF.lk a9.fr (LK_list hC.2 (by omega) (hC.2.hl (8 * gt + kk) (by omega)).1))
        obtain ⟨ee, hC9⟩ := hC5.hadd (h0 := h) (by omega) a9 hnl hH (hW.nd hE.1.2.2)
        clear hC hF
        have hC := hC9
        have hF := hF9
        refine lv_pop hx hb dX2_accept_51 rfl ?_
        refine lv_iconst (v := 1) hx hb dX2_accept_52 (by decide) ?_
        exact k_zret C hr hlk hW hS hB ⟨_, hF, by rw [kAcc_a c_4 c_15 (Int32.not_le.mp c_29)]; exact hC, by rw [kAccL, if_pos ⟨⟨c_4, c_15⟩, Int32.not_le.mp c_29⟩]; exact CsD.rf.p, by rw [kAcc_a c_4 c_15 (Int32.not_le.mp c_29)]⟩ (by decide) (Nat.le_of_ble_eq_true rfl) (Nat.le_of_ble_eq_true rfl) dX2_accept_53
    · refine lv_iconst (v := 0) hx hb dX2_accept_18 (by decide) ?_
      exact k_zret C hr hlk hW hS hB ⟨c0, hF, by rw [kAcc_c (fun z => c_15 z.2)]; exact hC, by rw [kAccL, if_neg (fun z => c_15 z.1.2)]; exact CsD.rf, by rw [kAcc_c (fun z => c_15 z.2)]⟩ (by decide) (Nat.le_of_ble_eq_true rfl) (Nat.le_of_ble_eq_true rfl) dX2_accept_19
