set_option maxRecDepth 10000 in
theorem CR.g27x {S : PS} {y : Nat → Nat} {dE : Nat} {g g2 : MS} {c : CS} (h : CR S y dE g c) (h1 : ∀ j, j ≠ 27 → g2.1 j = g.1 j) (h2 : g2.2 = g.2) : CR S y dE g2 c := by
  have e : g2 = (va_up g.1 27 (g2.1 27), g.2) := Prod.ext (funext fun j => by
    by_cases z : j = 27
    · rw [z]; show g2.1 27 = va_up g.1 27 (g2.1 27) 27; exact (up_same _ _ _).symm
    · rw [h1 j z]; show g.1 j = va_up g.1 27 (g2.1 27) j; exact (va_up_ne _ _ z).symm) h2
  rw [e]
  exact ⟨⟨h.1.lay, h.1.t0, h.1.t1, h.1.gb, h.1.hb, h.1.ll, h.1.ln, h.1.b1, h.1.b2, h.1.b3, h.1.b4, h.1.b5, h.1.d3, h.1.d4, h.1.d5, h.1.d6, h.1.d7, h.1.d8, h.1.a0, h.1.a1, h.1.a2, h.1.a3, h.1.pc, h.1.ms, h.1.hv, h.1.bv⟩, h.2⟩
theorem mSpend_z (g : MS) (n gt kk : Nat) (x : Int32) : (mSpend g n gt kk x).2 = 0 ∨ (mSpend g n gt kk x).2 = 1 := by
  unfold mSpend
  split
  · exact Or.inl rfl
  · exact Or.inr rfl
set_option maxRecDepth 100000 in
set_option maxHeartbeats 1000000 in
theorem c_X3_spend {l : Launch} {D : va_G} {cy : Nat → ClassId} {B : Nat} {s0 : State} {S : PS} {y : Nat → Nat} {dE mi : Nat} {g : MS} {c0 : CS} {gt kk : Nat} {x : Int32} {n : Nat} (hC : CR S y dE g c0) (hE : EnvC dE mi B s0) (hg : gt < 6) (hk : kk < 8) (hn3 : n ≤ 300) (hL : cP c0 (8 * gt + kk) = hs g gt kk n) (hk0 : HOk g gt kk n) (hT0 : ∀ h, h < n → mHold g gt kk h → HT g h) (hct : CT g gt) (hx9 : 1 ≤ x.toInt ∧ x.toInt ≤ 10000) : KI l yX3_spend wsX3_spend ({ frames := 6, cells := 0, slots := 0, locals := 155 }) D cy B s0 [.ref (y (10 + gt)), .int (nI kk), .int x] S (fun r S2 => ∃ c2, CF S S2 y ∧ CR S2 y dE (mSpend g n gt kk x).1 c2 ∧ CsD c0 c2 (8 * gt + kk) (hs (mSpend g n gt kk x).1 gt kk n) ∧ r = (mSpend g n gt kk x).2) 0 0 := by
  refine k_body (own := RX3) (cc := cX3_spend) (maxL := 3) (ret := (some .boolean)) rfl (by decide) rfl (Nat.le_of_ble_eq_true rfl) ?_
  intro p e s m below meth c C hml hr hlk hnm hB hW ls hl
  obtain ⟨hx, hb, hts, hown, hK, hEn⟩ := id C
  have hS : va_S (Aw B) s.heap s.heap [] := va_S.rf
  have hinX3 : ∀ w ∈ wsX30, w ∈ wsX3_spend := by decide +kernel
  have l12 : Cond.fieldLink RX3 12 "LeaseGates$Gate" "ticker" "LLeaseGates$Ticker;" ∈ wsX3_spend := by decide +kernel
  have l20 : Cond.fieldLink RX3 20 "LeaseGates$Gate" "desks" "[LLeaseGates$Desk;" ∈ wsX3_spend := by decide +kernel
  have hl : lv_has ls 3 [(0, .ref (y (10 + gt))), (1, .int (nI kk)), (2, .int x)] := hl
  have hF : CF S S y := CF.rf
  refine lv_aload_n hx hb dX3_spend_0 rfl (lv_at hl 0 rfl) ?_
  refine g_301 C hinX3 hW (hC.1.lay.gk gt (by omega)) (hC.1.lay.r301 gt (by omega)) l20 dX3_spend_1 ?_
  refine lv_iload_n hx hb dX3_spend_4 rfl (lv_at hl 1 rfl) ?_
  refine a_Deskload C hW (j := kk) (hC.1.lay.dk gt (by omega)) (hC.1.lay.dn gt (by omega)) rfl (by omega) (by omega) (hC.1.lay.da gt kk (by omega) (by omega)) dX3_spend_5 ?_
  refine lv_iload_n hx hb dX3_spend_6 rfl (lv_at hl 2 rfl) ?_
  refine lv_aload_n hx hb dX3_spend_7 rfl (lv_at hl 0 rfl) ?_
  refine g_300 C hinX3 hW (hC.1.lay.gk gt (by omega)) (hC.1.lay.r300 gt (by omega)) l12 dX3_spend_8 ?_
  refine k_callVi (As := []) (rest := [.int x, .ref (y (100 + (8 * gt + kk)))]) C hml (c_X9_now (hC.1.lay.tk gt (by omega))) (cwV 0 hts gX3_spend_X9_now rfl rfl rfl (by decide +kernel) ⟨by decide, by decide⟩) hW hS hB ((hC.1.lay.tk gt (by omega))).1 (pAt_9 ((hC.1.lay.tk gt (by omega))).2) rfl rfl hl.1 rfl (Nat.le_of_ble_eq_true rfl) dX3_spend_11 ⟨Nat.le_of_ble_eq_true rfl, Nat.le_of_ble_eq_true rfl⟩ (fun r9 S1 H locs hp9 hW hS => ?_)
  obtain ⟨e8, e9⟩ := hp9
  rw [e8] at hW
  rw [hC.1.t0 gt (by omega)] at e9
  replace e9 : r9 = mClk g gt := e9
  subst e9
  refine k_callVi (As := [.int x, .int (mClk g gt)]) (rest := []) C hml (c_X2_spend hC hE hg hk hn3 hL hk0 hT0 hct hx9) (cwV 2 hts gX3_spend_X2_spend rfl rfl rfl (by decide +kernel) ⟨by decide, by decide⟩) hW hS hB ((hC.1.lay.ek (8 * gt + kk) (by omega))).1 (pAt_2 ((hC.1.lay.ek (8 * gt + kk) (by omega))).2) rfl rfl hl.1 rfl (Nat.le_of_ble_eq_true rfl) dX3_spend_14 ⟨Nat.le_of_ble_eq_true rfl, Nat.le_of_ble_eq_true rfl⟩ (fun r9 S2 H locs hp9 hW hS => ?_)
  obtain ⟨c9, f9, k9, d9, e9⟩ := hp9
  subst e9
  exact k_zret C hr hlk hW hS hB ⟨c9, f9, k9, d9, rfl⟩ (mSpend_z _ _ _ _ _) (Nat.le_refl _) (Nat.le_refl _) dX3_spend_17
set_option maxRecDepth 100000 in
set_option maxHeartbeats 1000000 in
theorem c_X3_settle {l : Launch} {D : va_G} {cy : Nat → ClassId} {B : Nat} {s0 : State} {S : PS} {y : Nat → Nat} {dE mi : Nat} {g : MS} {c0 : CS} {gt n : Nat} (hC : CR S y dE g c0) (hE : EnvC dE mi B s0) (hg : gt < 6) (hn3 : n ≤ 300) (hH0 : CanH c0 g n) (hm0 : MsgOk g) : KV l yX3_settle wsX3_settle ({ frames := 5, cells := 308, slots := 2464, locals := 157 }) D cy B s0 [.ref (y (10 + gt)), .ref (y 2)] S (fun S2 => ∃ c2, CF S S2 y ∧ CR S2 y dE (mWorkN g gt n 8).1 c2 ∧ CanH c2 (mWorkN g gt n 8).1 n ∧ cQl c2 = cQl c0 ∧ cE c2 = cE c0) 308 2464 := by
  refine k_body (own := RX3) (cc := cX3_settle) (maxL := 3) (ret := none) rfl (by decide) rfl (Nat.le_of_ble_eq_true rfl) ?_
  intro p e s m below meth c C hml hr hlk hnm hB hW ls hl
  obtain ⟨hx, hb, hts, hown, hK, hEn⟩ := id C
  have hS : va_S (Aw B) s.heap s.heap [] := va_S.rf
  have hinX3 : ∀ w ∈ wsX30, w ∈ wsX3_settle := by decide +kernel
  have l12 : Cond.fieldLink RX3 12 "LeaseGates$Gate" "ticker" "LLeaseGates$Ticker;" ∈ wsX3_settle := by decide +kernel
  have l20 : Cond.fieldLink RX3 20 "LeaseGates$Gate" "desks" "[LLeaseGates$Desk;" ∈ wsX3_settle := by decide +kernel
  have l35 : Cond.fieldLink RX3 35 "LeaseGates$Gate" "birth" "I" ∈ wsX3_settle := by decide +kernel
  have hl : lv_has ls 3 [(0, .ref (y (10 + gt))), (1, .ref (y 2))] := hl
  have hF : CF S S y := CF.rf
  refine lv_iconst (v := 0) hx hb dX3_settle_0 (by decide) ?_
  refine lv_istore_n (lv' := [(2, .int 0), (0, .ref (y (10 + gt))), (1, .ref (y 2))]) hx hb dX3_settle_1 rfl hl (by decide) rfl (fun ls hl => ?_)
  have lp : ∀ (d i : Nat) (ck : CS) (Sk : PS) (H : Heap) (locs : List Loc) (ls : Array Slot), i ≤ 8 → 8 - i < d → CR Sk y dE (mWorkN g gt n i).1 ck → CF S Sk y → CanH ck (mWorkN g gt n i).1 n → cQl ck = cQl c0 → cE ck = cE c0 → PW D cy B Sk H → va_S (Aw B) s.heap H locs → lv_has ls 3 [(0, .ref (y (10 + gt))), (1, .ref (y 2)), (2, .int (nI i))] → W p l e ({ frames := 5, cells := 308, slots := 2464, locals := 157 }) s m [.ref (y (10 + gt)), .ref (y 2)].toArray below meth c H locs (hsum g gt n i + i) (8 * (hsum g gt n i + i)) (MQ below (va_Qv (fun S2 => ∃ c2, CF S S2 y ∧ CR S2 y dE (mWorkN g gt n 8).1 c2 ∧ CanH c2 (mWorkN g gt n 8).1 n ∧ cQl c2 = cQl c0 ∧ cE c2 = cE c0) (PreW D cy B s0) (Aw B)) [.ref (y (10 + gt)), .ref (y 2)].toArray s 308 2464 (Aw B)) (F0 m 2 ls []) := by
    intro d
    induction d with
    | zero => intro i ck Sk H locs ls _ hd; exact absurd hd (Nat.not_lt_zero _)
    | succ d ih =>
      intro i ck Sk H locs ls hk hd hC hF hH hQ9 hE9 hW hS hl
      refine lv_iload_n hx hb dX3_settle_2 rfl (lv_at hl 2 rfl) ?_
      refine lv_bipush (v := 8) hx hb dX3_settle_3 (by decide) ?_
      refine lv_icmp_ge (tgt := 35) hx hb dX3_settle_5 (by decide) (fun c_5 => ?_) (fun c_5 => ?_)
      · have q_5 : 8 ≤ i := (nI_leI (a := 8) (b := i) (by omega) (by omega)).mp c_5
        exact k_vret C hr hlk hW hS hB ⟨ck, hF, by rw [show i = 8 by omega] at hC; exact hC, by rw [show i = 8 by omega] at hH; exact hH, hQ9, hE9⟩ (by have := hsum_le g gt n i (by omega); omega) (by have := hsum_le g gt n i (by omega); omega) dX3_settle_35
      · have q_5 : ¬ (8 ≤ i) := fun z => c_5 ((nI_leI (a := 8) (b := i) (by omega) (by omega)).mpr z)
        refine lv_aload_n hx hb dX3_settle_8 rfl (lv_at hl 0 rfl) ?_
        refine g_301 C hinX3 hW (hC.1.lay.gk gt (by omega)) (hC.1.lay.r301 gt (by omega)) l20 dX3_settle_9 ?_
        refine lv_iload_n hx hb dX3_settle_12 rfl (lv_at hl 2 rfl) ?_
        refine a_Deskload C hW (j := i) (hC.1.lay.dk gt (by omega)) (hC.1.lay.dn gt (by omega)) rfl (by omega) (by omega) (hC.1.lay.da gt i (by omega) (by omega)) dX3_settle_13 ?_
        refine lv_aload_n hx hb dX3_settle_14 rfl (lv_at hl 0 rfl) ?_
        refine g_302 C hinX3 hW (hC.1.lay.gk gt (by omega)) l35 dX3_settle_15 ?_
        refine top_i (show fI Sk 302 (y (10 + gt)) = ((mWorkN g gt n i).1).1 20 gt from hC.1.gb gt (by omega)) ?_
        refine lv_aload_n hx hb dX3_settle_18 rfl (lv_at hl 0 rfl) ?_
        refine g_300 C hinX3 hW (hC.1.lay.gk gt (by omega)) (hC.1.lay.r300 gt (by omega)) l12 dX3_settle_19 ?_
        refine k_callVi (As := []) (rest := [.int (((mWorkN g gt n i).1).1 20 gt), .ref (y (100 + (8 * gt + i)))]) C hml (c_X9_now (hC.1.lay.tk gt (by omega))) (cwV 0 hts gX3_settle_X9_now rfl rfl rfl (by decide +kernel) ⟨by decide, by decide⟩) hW hS hB ((hC.1.lay.tk gt (by omega))).1 (pAt_9 ((hC.1.lay.tk gt (by omega))).2) rfl rfl hl.1 rfl (Nat.le_of_ble_eq_true rfl) dX3_settle_22 ⟨by have := hsum_le g gt n i (by omega); show _ ≤ 308; omega, by have := hsum_le g gt n i (by omega); show _ ≤ 2464; omega⟩ (fun r9 S1 H locs hp9 hW hS => ?_)
        obtain ⟨e8, e9⟩ := hp9
        rw [e8] at hW
        rw [hC.1.t0 gt (by omega)] at e9
        replace e9 : r9 = mClk ((mWorkN g gt n i).1) gt := e9
        subst e9
        refine lv_aload_n hx hb dX3_settle_25 rfl (lv_at hl 1 rfl) ?_
        refine k_callVv (As := [.int (((mWorkN g gt n i).1).1 20 gt), .int (mClk ((mWorkN g gt n i).1) gt), .ref (y 2)]) (rest := []) C hml (c_X2_settle (g := (mWorkN g gt n i).1) (L := hs g gt i n) hC hE hg (by omega) hn3 (by rw [hH gt i hg (by omega)]; exact hs_workN hn3 hg i (by omega) gt i hg (by omega) (Or.inr (Nat.le_refl _))) (hs_workN hn3 hg i (by omega) gt i hg (by omega) (Or.inr (Nat.le_refl _))).symm (mWorkN_ok hm0 gt n i)) (cwV 3 hts gX3_settle_X2_settle rfl rfl rfl (by decide +kernel) ⟨Nat.le_of_ble_eq_true rfl, Nat.le_of_ble_eq_true rfl⟩) hW hS hB ((hC.1.lay.ek (8 * gt + i) (by omega))).1 (pAt_2 ((hC.1.lay.ek (8 * gt + i) (by omega))).2) rfl rfl hl.1 rfl (Nat.le_of_ble_eq_true rfl) dX3_settle_26 ⟨by have := hsum_le g gt n (i + 1) (by omega); have e9 : hsum g gt n (i + 1) = hsum g gt n i + (hs g gt i n).length := rfl; show _ ≤ 308; omega, by have := hsum_le g gt n (i + 1) (by omega); have e9 : hsum g gt n (i + 1) = hsum g gt n i + (hs g gt i n).length := rfl; show _ ≤ 2464; omega⟩ (fun S2 H locs hp9 hW hS => ?_)
        obtain ⟨c9, f9, k9, d9⟩ := hp9
        rw [← mWorkN_fst] at k9 d9
        have hF9 := hF.tr f9
        have hH9 : CanH c9 (mWorkN g gt n (i + 1)).1 n := hH.desk (by omega) d9 (fun i9 k9 a9 b9 z9 => by rw [mWorkN_fst]; exact hs_work 0 hn3 hg (by omega) a9 b9 z9)
        clear hC hF
        have hC := k9
        have hF := hF9
        refine lv_iinc (v := nI (i + 1)) (lv' := [(2, .int (nI (i + 1))), (0, .ref (y (10 + gt))), (1, .ref (y 2))]) hx hb dX3_settle_29 hl (k := 2) rfl (nI_add i 1) (by decide) rfl (fun ls hl => ?_)
        refine lv_goto (tgt := 2) hx hb dX3_settle_32 (by decide) ?_
        exact W.widen (by show _ ≤ hsum g gt n i + (hs g gt i n).length + (i + 1); omega) (by show _ ≤ 8 * (hsum g gt n i + (hs g gt i n).length + (i + 1)); omega) (ih (i + 1) c9 _ _ _ ls (by omega) (by omega) hC hF hH9 (d9.2.2.1.trans hQ9) (d9.2.2.2.trans hE9) hW hS (lv_sub hl [1, 2, 0] rfl))
  exact W.widen (Nat.le_refl _) (Nat.le_refl _) (lp (8 - 0 + 1) 0 c0 _ _ _ ls (by omega) (by omega) hC hF hH0 rfl rfl hW hS (lv_sub hl [1, 2, 0] rfl))
def kHear (g : MS) (gt kk h : Nat) (birth tok cnt len : Int32) : MS × Int32 := if birth = g.1 20 gt then kAcc g gt kk h tok cnt len else (g, 0)
theorem kAcc_z (g : MS) (gt kk h : Nat) (a b c : Int32) : (kAcc g gt kk h a b c).2 = 0 ∨ (kAcc g gt kk h a b c).2 = 1 := by
  unfold kAcc
  split
  · exact Or.inr rfl
  · exact Or.inl rfl
def kHearL (g : MS) (gt kk h : Nat) (birth tok cnt : Int32) (L : List Nat) : List Nat := if birth = g.1 20 gt then kAccL g (8 * gt + kk) h tok cnt L else L
set_option maxRecDepth 100000 in
set_option maxHeartbeats 1000000 in
theorem c_X3_hearGrant {l : Launch} {D : va_G} {cy : Nat → ClassId} {B : Nat} {s0 : State} {S : PS} {y : Nat → Nat} {dE mi : Nat} {g : MS} {c0 : CS} {gt kk : Nat} {b h : Nat} {x0 x3 x4 x5 x6 x7 : Int32} (hC : CR S y dE g c0) (hE : EnvC dE mi B s0) (hg : gt < 6) (hk : kk < 8) (hM : MsgAt S b x0 (nI gt) (nI kk) x3 x4 x5 x6 x7) (hl0 : (cP c0 (8 * gt + kk)).length < 400) (hnum : 0 < x4 → x3 = g.1 20 gt → ¬ g.1 24 (8 * gt + kk) = 0 → x5 = g.1 23 (8 * gt + kk) → h < 300 ∧ x6 = nI h ∧ ∀ j, j < 48 → h ∉ cP c0 j) : KI l yX3_hearGrant wsX3_hearGrant ({ frames := 8, cells := 2, slots := 1104, locals := 212 }) D cy B s0 [.ref (y (10 + gt)), .ref b] S (fun r S2 => ∃ c2, CF S S2 y ∧ CR S2 y dE (kHear g gt kk h x3 x4 x5 x7).1 c2 ∧ CsD c0 c2 (8 * gt + kk) (kHearL g gt kk h x3 x4 x5 (cP c0 (8 * gt + kk))) ∧ r = (kHear g gt kk h x3 x4 x5 x7).2) 2 1104 := by
  refine k_body (own := RX3) (cc := cX3_hearGrant) (maxL := 2) (ret := (some .boolean)) rfl (by decide) rfl (Nat.le_of_ble_eq_true rfl) ?_
  intro p e s m below meth c C hml hr hlk hnm hB hW ls hl
  obtain ⟨hx, hb, hts, hown, hK, hEn⟩ := id C
  have hS : va_S (Aw B) s.heap s.heap [] := va_S.rf
  have hinX3 : ∀ w ∈ wsX30, w ∈ wsX3_hearGrant := by decide +kernel
  have hinX6 : ∀ w ∈ wsX60, w ∈ wsX3_hearGrant := by decide +kernel
  have l20 : Cond.fieldLink RX3 20 "LeaseGates$Gate" "desks" "[LLeaseGates$Desk;" ∈ wsX3_hearGrant := by decide +kernel
  have l35 : Cond.fieldLink RX3 35 "LeaseGates$Gate" "birth" "I" ∈ wsX3_hearGrant := by decide +kernel
  have l43 : Cond.fieldLink RX3 43 "LeaseGates$Message" "birth" "I" ∈ wsX3_hearGrant := by decide +kernel
  have l46 : Cond.fieldLink RX3 46 "LeaseGates$Message" "key" "I" ∈ wsX3_hearGrant := by decide +kernel
  have hl : lv_has ls 2 [(0, .ref (y (10 + gt))), (1, .ref b)] := hl
  have hF : CF S S y := CF.rf
  refine lv_aload_n hx hb dX3_hearGrant_0 rfl (lv_at hl 1 rfl) ?_
  refine g_603 C hinX6 hW hM.1 l43 dX3_hearGrant_1 ?_
  refine top_i (show fI S 603 b = x3 from hM.2.2.2.2.1) ?_
  refine lv_aload_n hx hb dX3_hearGrant_4 rfl (lv_at hl 0 rfl) ?_
  refine g_302 C hinX3 hW (hC.1.lay.gk gt (by omega)) l35 dX3_hearGrant_5 ?_
  refine top_i (show fI S 302 (y (10 + gt)) = g.1 20 gt from hC.1.gb gt (by omega)) ?_
  refine lv_icmp_ne (tgt := 31) hx hb dX3_hearGrant_8 (by decide) (fun c_8 => ?_) (fun c_8 => ?_)
  · refine lv_iconst (v := 0) hx hb dX3_hearGrant_31 (by decide) ?_
    exact k_zret C hr hlk hW hS hB ⟨c0, hF, by rw [kHear, if_neg c_8]; exact hC, by rw [kHearL, if_neg c_8]; exact CsD.rf, by rw [kHear, if_neg c_8]⟩ (by decide) (Nat.le_of_ble_eq_true rfl) (Nat.le_of_ble_eq_true rfl) dX3_hearGrant_32
  · refine lv_aload_n hx hb dX3_hearGrant_11 rfl (lv_at hl 0 rfl) ?_
    refine g_301 C hinX3 hW (hC.1.lay.gk gt (by omega)) (hC.1.lay.r301 gt (by omega)) l20 dX3_hearGrant_12 ?_
    refine lv_aload_n hx hb dX3_hearGrant_15 rfl (lv_at hl 1 rfl) ?_
    refine g_602 C hinX6 hW hM.1 l46 dX3_hearGrant_16 ?_
    refine top_i (show fI S 602 b = nI kk from hM.2.2.2.1) ?_
    refine a_Deskload C hW (j := kk) (hC.1.lay.dk gt (by omega)) (hC.1.lay.dn gt (by omega)) rfl (by omega) (by omega) (hC.1.lay.da gt kk (by omega) (by omega)) dX3_hearGrant_19 ?_
    refine lv_aload_n hx hb dX3_hearGrant_20 rfl (lv_at hl 1 rfl) ?_
    refine k_callVi (As := [.ref b]) (rest := []) C hml (c_X2_accept (h := h) hC hE hg hk hM hl0 (fun z a b => hnum z c_8 a b)) (cwV 1 hts gX3_hearGrant_X2_accept rfl rfl rfl (by decide +kernel) ⟨by decide, by decide⟩) hW hS hB ((hC.1.lay.ek (8 * gt + kk) (by omega))).1 (pAt_2 ((hC.1.lay.ek (8 * gt + kk) (by omega))).2) rfl rfl hl.1 rfl (Nat.le_of_ble_eq_true rfl) dX3_hearGrant_21 ⟨Nat.le_of_ble_eq_true rfl, Nat.le_of_ble_eq_true rfl⟩ (fun r9 S1 H locs hp9 hW hS => ?_)
    obtain ⟨c9, f9, k9, d9, e9⟩ := hp9
    subst e9
    refine lv_if_eq (tgt := 31) hx hb dX3_hearGrant_24 (by decide) (fun c_24 => ?_) (fun c_24 => ?_)
    · refine lv_iconst (v := 0) hx hb dX3_hearGrant_31 (by decide) ?_
      exact k_zret C hr hlk hW hS hB ⟨c9, f9, by rw [kHear, if_pos c_8]; exact k9, by rw [kHearL, if_pos c_8]; exact d9, by rw [kHear, if_pos c_8]; exact c_24.symm⟩ (by decide) (Nat.le_of_ble_eq_true rfl) (Nat.le_of_ble_eq_true rfl) dX3_hearGrant_32
    · refine lv_iconst (v := 1) hx hb dX3_hearGrant_27 (by decide) ?_
      refine lv_goto (tgt := 32) hx hb dX3_hearGrant_28 (by decide) ?_
      exact k_zret C hr hlk hW hS hB ⟨c9, f9, by rw [kHear, if_pos c_8]; exact k9, by rw [kHearL, if_pos c_8]; exact d9, by rw [kHear, if_pos c_8]; exact ((kAcc_z g gt kk h x4 x5 x7).resolve_left c_24).symm⟩ (by decide) (Nat.le_of_ble_eq_true rfl) (Nat.le_of_ble_eq_true rfl) dX3_hearGrant_32
theorem kClr_rs2 (g : MS) (gt j : Nat) : mRs2 g gt (j + 1) = kClr (mRs2 g gt j) (8 * gt + j) := rfl
theorem mRs2_o (g : MS) (gt : Nat) {f : Nat} (h : f < 21 ∨ 26 < f) : ∀ j, (mRs2 g gt j).1 f = g.1 f := by
  intro j
  induction j with
  | zero => rfl
  | succ j ih =>
    rw [kClr_rs2, kClr, iI_j (by omega), iI_j (by omega), iI_j (by omega), iI_j (by omega), iI_j (by omega), iI_j (by omega)]
    exact ih
theorem kClr_c (g : MS) (d f i : Nat) : (kClr g d).1 f i = if (21 ≤ f ∧ f ≤ 26) ∧ i = d then 0 else g.1 f i := by
  by_cases e : i = d
  · subst e
    by_cases z : 21 ≤ f ∧ f ≤ 26
    · rw [if_pos ⟨z, rfl⟩]
      rcases (show f = 21 ∨ f = 22 ∨ f = 23 ∨ f = 24 ∨ f = 25 ∨ f = 26 by omega) with rfl | rfl | rfl | rfl | rfl | rfl <;> simp [kClr, iI, va_up]
    · rw [if_neg (fun q => z q.1), kClr, iI_j (by omega), iI_j (by omega), iI_j (by omega), iI_j (by omega), iI_j (by omega), iI_j (by omega)]
  · rw [if_neg (fun q => e q.2)]
    by_cases z : 21 ≤ f ∧ f ≤ 26
    · rcases (show f = 21 ∨ f = 22 ∨ f = 23 ∨ f = 24 ∨ f = 25 ∨ f = 26 by omega) with rfl | rfl | rfl | rfl | rfl | rfl <;> simp [kClr, iI, va_up, e]
    · rw [kClr, iI_j (by omega), iI_j (by omega), iI_j (by omega), iI_j (by omega), iI_j (by omega), iI_j (by omega)]
theorem mRs2_c (g : MS) (gt : Nat) : ∀ j f i, (mRs2 g gt j).1 f i = if (21 ≤ f ∧ f ≤ 26) ∧ 8 * gt ≤ i ∧ i < 8 * gt + j then 0 else g.1 f i := by
  intro j
  induction j with
  | zero => intro f i; rw [if_neg (fun q => by omega)]; rfl
  | succ j ih =>
    intro f i
    rw [kClr_rs2, kClr_c]
    by_cases z : (21 ≤ f ∧ f ≤ 26) ∧ i = 8 * gt + j
    · rw [if_pos z, if_pos ⟨z.1, by omega, by omega⟩]
    · rw [if_neg z, ih]
      by_cases q : (21 ≤ f ∧ f ≤ 26) ∧ 8 * gt ≤ i ∧ i < 8 * gt + j
      · rw [if_pos q, if_pos ⟨q.1, q.2.1, by omega⟩]
      · rw [if_neg q, if_neg (fun u => by rcases Nat.lt_or_ge i (8 * gt + j) with v | v; exact q ⟨u.1, u.2.1, v⟩; exact z ⟨u.1, by omega⟩)]
theorem mRs2_2 (g : MS) (gt j : Nat) : (mRs2 g gt j).2 = g.2 := by
  induction j with
  | zero => rfl
  | succ j ih => exact ih
theorem mRs1_c (g : MS) (gt : Nat) : ∀ h f i, (mRs1 g gt h).1 f i = if f = 27 ∧ i < h ∧ g.1 27 i = nI (gt + 1) then 0 else g.1 f i := by
  intro h
  induction h with
  | zero => intro f i; rw [if_neg (fun q => absurd q.2.1 (Nat.not_lt_zero _))]; rfl
  | succ h ih =>
    intro f i
    rw [mRs1]
    by_cases e : f = 27
    · subst e
      by_cases e2 : i = h
      · subst e2
        rw [iI_s, ih, if_neg (c := 27 = 27 ∧ i < i ∧ _) (fun q => absurd q.2.1 (Nat.lt_irrefl _))]
        by_cases z : g.1 27 i = nI (gt + 1)
        · rw [if_pos z, if_pos ⟨rfl, Nat.lt_succ_self _, z⟩]
        · rw [if_neg z, if_neg (fun q => z q.2.2)]
      · rw [iI_o e2, ih]
        by_cases z : 27 = 27 ∧ i < h ∧ g.1 27 i = nI (gt + 1)
        · rw [if_pos z, if_pos ⟨rfl, by omega, z.2.2⟩]
        · rw [if_neg z, if_neg (fun q => z ⟨rfl, by omega, q.2.2⟩)]
    · rw [iI_j e, ih, if_neg (fun q => e q.1), if_neg (fun q => e q.1)]
theorem mRs1_2 (g : MS) (gt h : Nat) : (mRs1 g gt h).2 = g.2 := by
  induction h with
  | zero => rfl
  | succ h ih => exact ih
/-- behind the restart -/
theorem CR.anew {S : PS} {y : Nat → Nat} {dE : Nat} {g : MS} {c : CS} {gt n : Nat} {v : Int32} (h : CR S y dE (iI (mRs2 g gt 8) 20 gt v) c) (hv : v = g.1 20 gt + 1) : CR S y dE (mRsG g n gt) c := by
  refine h.g27x (fun j hj => funext fun i => ?_) ?_
  · rw [mRsG, mRs2_c, mRs1_c, if_neg (c := j = 27 ∧ _) (fun q => hj q.1)]
    by_cases e : j = 20
    · subst e
      rw [if_neg (fun q => absurd q.1.1 (by decide))]
      by_cases e2 : i = gt
      · subst e2; rw [iI_s, iI_s, hv]
      · rw [iI_o e2, iI_o e2, mRs2_c, if_neg (fun q => absurd q.1.1 (by decide))]
    · rw [iI_j e, iI_j e, mRs2_c]
  · rw [mRsG, mRs2_2, mRs1_2]; exact (mRs2_2 g gt 8).symm
theorem rs_20 (g : MS) (n gt : Nat) : (mRsG g n gt).1 20 gt = g.1 20 gt + 1 := by
  rw [mRsG, mRs2_c, if_neg (fun q => absurd q.1.1 (by decide)), mRs1_c, if_neg (fun q => absurd q.1 (by decide)), iI_s]
theorem hs_rs {g : MS} {gt n i k : Nat} (hi : i < 6) (hg : gt < 6) (hn : n ≤ 300) : hs (mRsG g n gt) i k n = if i = gt then [] else hs g i k n := by
  have h27 : ∀ x, x < n → (mRsG g n gt).1 27 x = if g.1 27 x = nI (gt + 1) then 0 else g.1 27 x := fun x hx => by
    rw [mRsG, mRs2_c, if_neg (fun q => absurd q.1.2 (by decide)), mRs1_c]
    by_cases z : g.1 27 x = nI (gt + 1)
    · rw [if_pos ⟨rfl, hx, z⟩, if_pos z]
    · rw [if_neg (fun q => z q.2.2), if_neg z]; rfl
  have h8 : ∀ x, (mRsG g n gt).1 8 x = g.1 8 x := fun x => by
    rw [mRsG, mRs2_c, if_neg (fun q => absurd q.1.1 (by decide)), mRs1_c, if_neg (fun q => absurd q.1 (by decide))]; rfl
  by_cases e : i = gt
  · subst e
    rw [if_pos rfl]
    refine List.eq_nil_iff_forall_not_mem.mpr (fun x hx => ?_)
    have := mem_fil.mp hx
    have q := this.2.1
    rw [h27 x this.1] at q
    by_cases z : g.1 27 x = nI (i + 1)
    · rw [if_pos z] at q; exact nI_ne0 (by omega) (by omega) q.symm
    · rw [if_neg z] at q; exact z q
  · rw [if_neg e]
    refine fil_congr (fun x hx => ?_)
    unfold mHold
    rw [h27 x hx, h8]
    by_cases z : g.1 27 x = nI (gt + 1)
    · rw [if_pos z, z]
      exact ⟨fun q => absurd q.1.symm (nI_ne0 (by omega) (by omega)), fun q => absurd (nI_ij q.1 (by omega) (by omega)) (by omega)⟩
    · rw [if_neg z]
set_option maxRecDepth 100000 in
set_option maxHeartbeats 1000000 in
theorem c_X3_startAnew {l : Launch} {D : va_G} {cy : Nat → ClassId} {B : Nat} {s0 : State} {S : PS} {y : Nat → Nat} {dE mi : Nat} {g : MS} {c0 : CS} {gt n : Nat} (hC : CR S y dE g c0) (hE : EnvC dE mi B s0) (hg : gt < 6) (hn3 : n ≤ 300) (hH0 : CanH c0 g n) : KI l yX3_startAnew wsX3_startAnew ({ frames := 2, cells := 0, slots := 0, locals := 43 }) D cy B s0 [.ref (y (10 + gt))] S (fun r S2 => ∃ c2, CF S S2 y ∧ CR S2 y dE (mRsG g n gt) c2 ∧ CanH c2 (mRsG g n gt) n ∧ cQl c2 = cQl c0 ∧ cE c2 = cE c0 ∧ r = (mRsG g n gt).1 20 gt) 0 0 := by
  refine k_body (own := RX3) (cc := cX3_startAnew) (maxL := 2) (ret := (some .int)) rfl (by decide) rfl (Nat.le_of_ble_eq_true rfl) ?_
  intro p e s m below meth c C hml hr hlk hnm hB hW ls hl
  obtain ⟨hx, hb, hts, hown, hK, hEn⟩ := id C
  have hS : va_S (Aw B) s.heap s.heap [] := va_S.rf
  have hinX3 : ∀ w ∈ wsX30, w ∈ wsX3_startAnew := by decide +kernel
  have l20 : Cond.fieldLink RX3 20 "LeaseGates$Gate" "desks" "[LLeaseGates$Desk;" ∈ wsX3_startAnew := by decide +kernel
  have l35 : Cond.fieldLink RX3 35 "LeaseGates$Gate" "birth" "I" ∈ wsX3_startAnew := by decide +kernel
  have hl : lv_has ls 2 [(0, .ref (y (10 + gt)))] := hl
  have hF : CF S S y := CF.rf
  refine lv_iconst (v := 0) hx hb dX3_startAnew_0 (by decide) ?_
  refine lv_istore_n (lv' := [(1, .int 0), (0, .ref (y (10 + gt)))]) hx hb dX3_startAnew_1 rfl hl (by decide) rfl (fun ls hl => ?_)
  have lp : ∀ (d i : Nat) (ck : CS) (Sk : PS) (H : Heap) (locs : List Loc) (ls : Array Slot), i ≤ 8 → 8 - i < d → CR Sk y dE (mRs2 g gt i) ck → CF S Sk y → (∀ k, k < i → cP ck (8 * gt + k) = []) → (∀ j, (j < 8 * gt ∨ 8 * gt + 8 ≤ j) → cP ck j = cP c0 j) → cQl ck = cQl c0 → cE ck = cE c0 → PW D cy B Sk H → va_S (Aw B) s.heap H locs → lv_has ls 2 [(0, .ref (y (10 + gt))), (1, .int (nI i))] → W p l e ({ frames := 2, cells := 0, slots := 0, locals := 43 }) s m [.ref (y (10 + gt))].toArray below meth c H locs 0 0 (MQ below (va_Qi (fun r S2 => ∃ c2, CF S S2 y ∧ CR S2 y dE (mRsG g n gt) c2 ∧ CanH c2 (mRsG g n gt) n ∧ cQl c2 = cQl c0 ∧ cE c2 = cE c0 ∧ r = (mRsG g n gt).1 20 gt) (PreW D cy B s0) (Aw B)) [.ref (y (10 + gt))].toArray s 0 0 (Aw B)) (F0 m 2 ls []) := by
    intro d
    induction d with
    | zero => intro i ck Sk H locs ls _ hd; exact absurd hd (Nat.not_lt_zero _)
    | succ d ih =>
      intro i ck Sk H locs ls hk hd hC hF hz9 ho9 hQ9 hE9 hW hS hl
      refine lv_iload_n hx hb dX3_startAnew_2 rfl (lv_at hl 1 rfl) ?_
      refine lv_bipush (v := 8) hx hb dX3_startAnew_3 (by decide) ?_
      refine lv_icmp_ge (tgt := 23) hx hb dX3_startAnew_5 (by decide) (fun c_5 => ?_) (fun c_5 => ?_)
      · have q_5 : 8 ≤ i := (nI_leI (a := 8) (b := i) (by omega) (by omega)).mp c_5
        refine lv_aload_n hx hb dX3_startAnew_23 rfl (lv_at hl 0 rfl) ?_
        refine lv_dup hx hb dX3_startAnew_24 rfl ?_
        refine g_302 C hinX3 hW (hC.1.lay.gk gt (by omega)) l35 dX3_startAnew_25 ?_
        refine top_i (show fI Sk 302 (y (10 + gt)) = (mRs2 g gt i).1 20 gt from hC.1.gb gt (by omega)) ?_
        refine lv_iconst (v := 1) hx hb dX3_startAnew_28 (by decide) ?_
        refine lv_iadd hx hb dX3_startAnew_29 ?_
        refine p_302 C hinX3 hW hS (hC.1.lay.gk gt (by omega)) l35 dX3_startAnew_30 (fun S1 H locs e1 hW hS => ?_)
        have hF9 : CF S S1 y := by rw [e1]; exact hF.sI (hC.1.lay.gk gt (by omega)) (by decide)
        have hC9 : CR S1 y dE (iI (mRs2 g gt i) 20 gt (((mRs2 g gt i).1 20 gt) + 1)) ck := by rw [e1]; exact hC.wgb
        clear hC hF e1
        have hF := hF9
        have hC := hC9
        clear hC9 hF9
        refine lv_aload_n hx hb dX3_startAnew_33 rfl (lv_at hl 0 rfl) ?_
        refine g_302 C hinX3 hW (hC.1.lay.gk gt (by omega)) l35 dX3_startAnew_34 ?_
        refine top_i (show fI S1 302 (y (10 + gt)) = (iI (mRs2 g gt i) 20 gt (((mRs2 g gt i).1 20 gt) + 1)).1 20 gt from hC.1.gb gt (by omega)) ?_
        exact k_iret C hr hlk hW hS hB ⟨ck, hF, by rw [show i = 8 by omega] at hC; exact hC.anew (by rw [mRs2_o _ _ (by decide)]), fun i9 k9 a9 b9 => by rw [hs_rs a9 hg hn3]; by_cases e9 : i9 = gt; (rw [if_pos e9, e9]; exact hz9 k9 (by omega)); (rw [if_neg e9, ho9 _ (by omega)]; exact hH0 i9 k9 a9 b9), hQ9, hE9, by rw [iI_s, mRs2_o _ _ (by decide)]; exact (rs_20 g n gt).symm⟩ (Nat.le_refl _) (Nat.le_refl _) dX3_startAnew_37
      · have q_5 : ¬ (8 ≤ i) := fun z => c_5 ((nI_leI (a := 8) (b := i) (by omega) (by omega)).mpr z)
        refine lv_aload_n hx hb dX3_startAnew_8 rfl (lv_at hl 0 rfl) ?_
        refine g_301 C hinX3 hW (hC.1.lay.gk gt (by omega)) (hC.1.lay.r301 gt (by omega)) l20 dX3_startAnew_9 ?_
        refine lv_iload_n hx hb dX3_startAnew_12 rfl (lv_at hl 1 rfl) ?_
        refine a_Deskload C hW (j := i) (hC.1.lay.dk gt (by omega)) (hC.1.lay.dn gt (by omega)) rfl (by omega) (by omega) (hC.1.lay.da gt i (by omega) (by omega)) dX3_startAnew_13 ?_
        refine k_callVv (As := []) (rest := []) C hml (c_X2_clear hC hE hg (by omega)) (cwV 0 hts gX3_startAnew_X2_clear rfl rfl rfl (by decide +kernel) ⟨by decide, by decide⟩) hW hS hB ((hC.1.lay.ek (8 * gt + i) (by omega))).1 (pAt_2 ((hC.1.lay.ek (8 * gt + i) (by omega))).2) rfl rfl hl.1 rfl (Nat.le_of_ble_eq_true rfl) dX3_startAnew_14 ⟨Nat.le_of_ble_eq_true rfl, Nat.le_of_ble_eq_true rfl⟩ (fun S2 H locs hp9 hW hS => ?_)
        obtain ⟨c9, f9, k9, d9⟩ := hp9
        have hF9 := hF.tr f9
        clear hC hF
        have hC := k9
        have hF := hF9
        refine lv_iinc (v := nI (i + 1)) (lv' := [(1, .int (nI (i + 1))), (0, .ref (y (10 + gt)))]) hx hb dX3_startAnew_17 hl (k := 1) rfl (nI_add i 1) (by decide) rfl (fun ls hl => ?_)
        refine lv_goto (tgt := 2) hx hb dX3_startAnew_20 (by decide) ?_
        exact ih (i + 1) c9 _ _ _ ls (by omega) (by omega) hC hF (fun k z => by
    by_cases e9 : k = i
    · rw [e9]; exact d9.1
    · rw [d9.2.1 _ (by omega)]; exact hz9 k (by omega)) (fun j z => (d9.2.1 j (by omega)).trans (ho9 j z)) (d9.2.2.1.trans hQ9) (d9.2.2.2.trans hE9) hW hS (lv_sub hl [1, 0] rfl)
  exact lp (8 - 0 + 1) 0 c0 _ _ _ ls (by omega) (by omega) hC hF (fun k z => absurd z (Nat.not_lt_zero _)) (fun _ _ => rfl) rfl rfl hW hS (lv_sub hl [1, 0] rfl)
