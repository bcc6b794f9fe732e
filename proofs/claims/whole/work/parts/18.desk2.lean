theorem map_erase (f : Nat → Nat) : ∀ (L : List Nat) (j : Nat), (L.eraseIdx j).map f = (L.map f).eraseIdx j := by
  intro L
  induction L with
  | nil => intro j; rfl
  | cons a L ih =>
    intro j
    cases j with
    | zero => rfl
    | succ j => rw [List.eraseIdx_cons_succ, List.map_cons, List.map_cons, List.eraseIdx_cons_succ, ih]
theorem mem_erase {L : List Nat} {j x : Nat} (h : x ∈ L.eraseIdx j) : x ∈ L := List.mem_of_mem_eraseIdx h
theorem nI_dec {r : Nat} (h : 0 < r) : nI r + (-1) = nI (r - 1) := by
  obtain ⟨k, rfl⟩ : ∃ k, r = k + 1 := ⟨r - 1, by omega⟩
  rw [← nI_add k 1]
  show nI k + 1 + (-1) = nI k
  rw [Int32.add_assoc]
  exact Int32.add_zero _
theorem AL.el {S : PS} {dE a ea k : Nat} {L : List Nat} {f : Nat → Nat} (h : AL S dE a ea (L.map f)) (hk : ∀ x, x ∈ L → IsAt S k (f x)) : ∀ j, j < (L.map f).length → ∀ z, aQ S ea j = some z → IsAt S k z := by
  intro j hj z hz
  rw [(h.arr hj).2.2.2.2, List.getElem?_map] at hz
  obtain ⟨x, h1, h2⟩ := Option.map_eq_some_iff.mp hz
  subst h2
  exact hk x (List.mem_of_getElem? h1)
/-- behind a method of a desk: its list is L, the others are as they were -/
def CsD (c0 c2 : CS) (d : Nat) (L : List Nat) : Prop := cP c2 d = L ∧ (∀ j, j ≠ d → cP c2 j = cP c0 j) ∧ cQl c2 = cQl c0 ∧ cE c2 = cE c0
theorem CsD.rf {c0 : CS} {d : Nat} : CsD c0 c0 d (cP c0 d) := ⟨rfl, fun _ _ => rfl, rfl, rfl⟩
theorem CsD.p {c0 c2 : CS} {d ee : Nat} {L L2 : List Nat} (h : CsD c0 c2 d L) : CsD c0 (csP c2 d ee L2) d L2 := ⟨up_same _ _ _, fun j hj => (va_up_ne _ _ hj).trans (h.2.1 j hj), h.2.2.1, h.2.2.2⟩
theorem CsD.h {c0 c2 : CS} {d ee q : Nat} {L : List Nat} (h : CsD c0 c2 d L) : CsD c0 (csH c2 ee q) d L := h
theorem CsD.tr {c0 c2 c3 : CS} {d : Nat} {L L2 : List Nat} (h : CsD c0 c2 d L) (k : CsD c2 c3 d L2) : CsD c0 c3 d L2 := ⟨k.1, fun j hj => (k.2.1 j hj).trans (h.2.1 j hj), k.2.2.1.trans h.2.2.1, k.2.2.2.trans h.2.2.2⟩
theorem tk_end {gt kk n fu : Nat} {gk R : MS} {x3 : Int32} (h : mTkD gt kk n fu gk x3 = R) (z : ¬ 0 < x3) : R = gk := by rw [← h]; exact mTkD_done gt kk n fu gk z
theorem live_none {gk : MS} {gt kk n : Nat} (h : (hs gk gt kk n).length = 0) : liveI gk gt kk n = 0 := liveI_none n (fun x hx z => by have := mem_fil.mpr ⟨hx, z.1⟩; rw [show fil (mHold gk gt kk) n = [] from List.eq_nil_of_length_eq_zero h] at this; exact absurd this (List.not_mem_nil))
theorem hT_tk {g : MS} {gt kk n b : Nat} {x : Int32} (hg : gt < 6) (h : ∀ z, z < n → mHold g gt kk z → HT g z) : ∀ z, z < n → mHold (mTk2 g b x) gt kk z → HT (mTk2 g b x) z := by
  intro z hz hz2
  have e := mTk2_o g b x
  have := h z hz ((mTk2_hold hg).mp hz2).1
  unfold HT at *
  rw [e.2 29 (by decide) (by decide), e.2 30 (by decide) (by decide)]
  exact this
theorem tk_zero {g : MS} {h : Nat} {x3 : Int32} (z : ¬ g.1 28 h - mTk1 g h x3 = 0) (h1 : 1 ≤ (g.1 28 h).toInt ∧ (g.1 28 h).toInt ≤ 1000000) (h2 : 0 < x3.toInt) (h3 : x3.toInt ≤ 10000) : (x3 - mTk1 g h x3).toInt ≤ 0 := by
  unfold mTk1 at *
  by_cases e : g.1 28 h < x3
  · rw [if_pos e] at z; exact absurd (Int32.sub_self _) z
  · rw [if_neg e, Int32.sub_self]; exact Int.le_refl _
set_option maxRecDepth 100000 in
set_option maxHeartbeats 1000000 in
theorem c_X2_takeOut {l : Launch} {D : va_G} {cy : Nat → ClassId} {B : Nat} {s0 : State} {S : PS} {y : Nat → Nat} {dE mi : Nat} {g : MS} {c0 : CS} {gt kk : Nat} {x : Int32} {n : Nat} (hC : CR S y dE g c0) (hE : EnvC dE mi B s0) (hg : gt < 6) (hk : kk < 8) (hn3 : n ≤ 300) (hL : cP c0 (8 * gt + kk) = hs g gt kk n) (hk0 : HOk g gt kk n) (hT0 : ∀ h, h < n → mHold g gt kk h → HT g h) (hct : CT g gt) (hx9 : 1 ≤ x.toInt ∧ x.toInt ≤ 10000) (hl9 : x.toInt ≤ liveI g gt kk n) : KV l yX2_takeOut wsX2_takeOut ({ frames := 4, cells := 0, slots := 0, locals := 106 }) D cy B s0 [.ref (y (100 + (8 * gt + kk))), .int x, .int (mClk g gt)] S (fun S2 => ∃ c2, CF S S2 y ∧ CR S2 y dE (mTkD gt kk n 10001 g x) c2 ∧ CsD c0 c2 (8 * gt + kk) (hs (mTkD gt kk n 10001 g x) gt kk n)) 0 0 := by
  refine k_body (own := RX2) (cc := cX2_takeOut) (maxL := 8) (ret := none) rfl (by decide) rfl (Nat.le_of_ble_eq_true rfl) ?_
  intro p e s m below meth c C hml hr hlk hnm hB hW ls hl
  obtain ⟨hx, hb, hts, hown, hK, hEn⟩ := id C
  have hS : va_S (Aw B) s.heap s.heap [] := va_S.rf
  have hinX2 : ∀ w ∈ wsX20, w ∈ wsX2_takeOut := by decide +kernel
  have hinX4 : ∀ w ∈ wsX40, w ∈ wsX2_takeOut := by decide +kernel
  have l12 : Cond.fieldLink RX2 12 "LeaseGates$Desk" "holds" "Ljava/util/ArrayList;" ∈ wsX2_takeOut := by decide +kernel
  have l61 : Cond.fieldLink RX2 61 "LeaseGates$Hold" "tokens" "I" ∈ wsX2_takeOut := by decide +kernel
  have hl : lv_has ls 8 [(0, .ref (y (100 + (8 * gt + kk)))), (1, .int x), (2, .int (mClk g gt))] := hl
  have hF : CF S S y := CF.rf
  obtain ⟨L, hL0⟩ : ∃ L, L = hs g gt kk n := ⟨_, rfl⟩
  have hl3 : L.length ≤ 300 := by rw [hL0]; exact Nat.le_trans (fil_len _ _) hn3
  have hA : AL S dE (y (200 + (8 * gt + kk))) (cA c0 (8 * gt + kk)) (L.map (cH c0)) := by rw [hL0, ← hL]; exact hC.2.hl (8 * gt + kk) (by omega)
  refine lv_iload_n hx hb dX2_takeOut_0 rfl (lv_at hl 1 rfl) ?_
  refine lv_istore_n (lv' := [(3, .int x), (0, .ref (y (100 + (8 * gt + kk)))), (1, .int x), (2, .int (mClk g gt))]) hx hb dX2_takeOut_1 rfl hl (by decide) rfl (fun ls hl => ?_)
  refine lv_aload_n hx hb dX2_takeOut_2 rfl (lv_at hl 1 rfl) ?_
  refine g_202 C hinX2 hW (hC.1.lay.ek (8 * gt + kk) (by omega)) (hC.1.lay.r202 (8 * gt + kk) (by omega)) l12 dX2_takeOut_3 ?_
  refine k_callVi (As := []) (rest := []) C hml (c_Jx4a65c_size_8abf5 hA.1) (cwV 0 hts gX2_takeOut_Jx4a65c_size_8abf5 rfl rfl rfl (by decide +kernel) ⟨by decide, by decide⟩) hW hS hB ((hC.2.hl (8 * gt + kk) (by omega)).1).1 (pAt_12 ((hC.2.hl (8 * gt + kk) (by omega)).1).2) rfl rfl hl.1 rfl (Nat.le_of_ble_eq_true rfl) dX2_takeOut_6 ⟨Nat.le_of_ble_eq_true rfl, Nat.le_of_ble_eq_true rfl⟩ (fun r9 S1 H locs hp9 hW hS => ?_)
  obtain ⟨e8, e9⟩ := hp9
  rw [e8] at hW
  replace e9 := e9.trans (hA.2.2.1.trans (congrArg nI (List.length_map _)))
  subst e9
  refine lv_istore (lv' := [(4, .int (nI L.length)), (3, .int x), (0, .ref (y (100 + (8 * gt + kk)))), (1, .int x), (2, .int (mClk g gt))]) hx hb dX2_takeOut_9 hl (by decide) rfl (fun ls hl => ?_)
  have lp : ∀ (d_lp : Nat) (x3 : Int32) (r : Nat) (gk : MS) (ck : CS) (Sk : PS) (H : Heap) (locs : List Loc) (ls : Array Slot), r < d_lp → CR Sk y dE gk ck → CF S Sk y → CsD c0 ck (8 * gt + kk) (hs gk gt kk n) → (∃ fu, x3.toInt.toNat < fu ∧ mTkD gt kk n fu gk x3 = (mTkD gt kk n 10001 g x)) → HOk gk gt kk n → x3.toInt ≤ liveI gk gt kk n → x3.toInt ≤ 10000 → ((0 < x3.toInt → (hs gk gt kk n).length ≤ r) ∧ r ≤ 300) → (∀ h, h < n → mHold gk gt kk h → HT gk h) → gk.2 = g.2 → PW D cy B Sk H → va_S (Aw B) s.heap H locs → lv_has ls 8 [(0, .ref (y (100 + (8 * gt + kk)))), (1, .int x), (2, .int (mClk g gt)), (3, .int x3), (4, .int (nI r))] → W p l e ({ frames := 4, cells := 0, slots := 0, locals := 106 }) s m [.ref (y (100 + (8 * gt + kk))), .int x, .int (mClk g gt)].toArray below meth c H locs 0 0 (MQ below (va_Qv (fun S2 => ∃ c2, CF S S2 y ∧ CR S2 y dE (mTkD gt kk n 10001 g x) c2 ∧ CsD c0 c2 (8 * gt + kk) (hs (mTkD gt kk n 10001 g x) gt kk n)) (PreW D cy B s0) (Aw B)) [.ref (y (100 + (8 * gt + kk))), .int x, .int (mClk g gt)].toArray s 0 0 (Aw B)) (F0 m 11 ls []) := by
    intro d_lp
    induction d_lp with
    | zero => intro x3 r gk ck Sk H locs ls hd; exact absurd hd (Nat.not_lt_zero _)
    | succ d_lp ih_lp =>
      intro x3 r gk ck Sk H locs ls hd hC hF hD hR hk1 hl1 hx1 hr0 hT hf hW hS hl
      have hr00 := hr0.2
      refine lv_iload hx hb dX2_takeOut_11 (lv_at hl 4 rfl) ?_
      refine lv_if_le (tgt := 100) hx hb dX2_takeOut_13 (by decide) (fun c_13 => ?_) (fun c_13 => ?_)
      · have q_13 : r ≤ 0 := (nI_leI (a := r) (b := 0) (by omega) (by omega)).mp c_13
        have hz9 : ¬ 0 < x3 := by
          intro z9
          rw [Int32.lt_iff_toInt_lt] at z9
          have z8 := hr0.1 z9
          have z7 := live_none (gk := gk) (gt := gt) (kk := kk) (n := n) (by omega)
          rw [z7] at hl1
          exact absurd (show (0 : Int) < x3.toInt from z9) (by omega)
        exact k_vret C hr hlk hW hS hB ⟨ck, hF, by obtain ⟨fu, -, z2⟩ := hR; rw [tk_end z2 hz9]; exact hC, by obtain ⟨fu, -, z2⟩ := hR; rw [tk_end z2 hz9]; exact hD⟩ (Nat.le_refl _) (Nat.le_refl _) dX2_takeOut_100
      · have q_13 : ¬ (r ≤ 0) := fun z => c_13 ((nI_leI (a := r) (b := 0) (by omega) (by omega)).mpr z)
        refine lv_iload_n hx hb dX2_takeOut_16 rfl (lv_at hl 3 rfl) ?_
        refine lv_if_le (tgt := 100) hx hb dX2_takeOut_17 (by decide) (fun c_17 => ?_) (fun c_17 => ?_)
        · have hz9 : ¬ 0 < x3 := Int32.not_lt.mpr c_17
          exact k_vret C hr hlk hW hS hB ⟨ck, hF, by obtain ⟨fu, -, z2⟩ := hR; rw [tk_end z2 hz9]; exact hC, by obtain ⟨fu, -, z2⟩ := hR; rw [tk_end z2 hz9]; exact hD⟩ (Nat.le_refl _) (Nat.le_refl _) dX2_takeOut_100
        · have hx0 : 0 < x3.toInt := by have z := Int32.not_le.mp c_17; rw [Int32.lt_iff_toInt_lt] at z; exact z
          have hcg : mClk gk gt = mClk g gt := by unfold mClk; rw [hf]
          obtain ⟨b9, b1, b2, b3, b4⟩ := best_ok (g := gk) (gt := gt) (kk := kk) hn3 (by omega)
          have hs9 := mTkS_ok hg hn3 hk1 hl1 hx0 hx1
          have hln : (hs gk gt kk n).length ≤ n := fil_len _ _
          have hA : AL Sk dE (y (200 + (8 * gt + kk))) (cA ck (8 * gt + kk)) ((hs gk gt kk n).map (cH ck)) := by rw [← hD.1]; exact hC.2.hl (8 * gt + kk) (by omega)
          refine lv_aload_n hx hb dX2_takeOut_20 rfl (lv_at hl 0 rfl) ?_
          refine lv_iload_n hx hb dX2_takeOut_21 rfl (lv_at hl 2 rfl) ?_
          refine k_callVi (As := [.int (mClk g gt)]) (rest := []) C hml (c_X2_liveHoldThatEndsFirst hC hE hg hk hD.1) (cwV 1 hts gX2_takeOut_X2_liveHoldThatEndsFirst rfl rfl rfl (by decide +kernel) ⟨by decide, by decide⟩) hW hS hB ((hC.1.lay.ek (8 * gt + kk) (by omega))).1 (pAt_2 ((hC.1.lay.ek (8 * gt + kk) (by omega))).2) rfl rfl hl.1 rfl (Nat.le_of_ble_eq_true rfl) dX2_takeOut_22 ⟨Nat.le_of_ble_eq_true rfl, Nat.le_of_ble_eq_true rfl⟩ (fun r9 S2 H locs hp9 hW hS => ?_)
          obtain ⟨e8, e9⟩ := hp9
          rw [e8] at hW
          obtain ⟨j, h, hh, ej, eb⟩ : ∃ j h, (hs gk gt kk n)[j]? = some h ∧ bIx gk (mClk gk gt) (hs gk gt kk n) (hs gk gt kk n).length = nI j ∧ (mBest gk gt kk n).1 = nI h := by
            rcases best_same hT (by unfold CT; rw [hcg]; exact hct) hn3 with z | z
            · exact absurd (z.2.symm.trans b2) (fun z9 => nI_pos (n := b9) (by omega) (by rw [← z9]; decide))
            · exact z
          rw [← hcg, ej] at e9
          subst e9
          have hh0 := List.getElem?_eq_some_iff.mp hh
          obtain ⟨hjl, -⟩ := hh0
          have hm9 : h ∈ cP ck (8 * gt + kk) := by rw [hD.1]; exact List.mem_of_getElem? hh
          have hh3 : h < 300 := (hC.1.hv (8 * gt + kk) (by omega) h hm9).2.2.2.2.2
          have hbh : (mBest gk gt kk n).1.toNatClampNeg = h := by rw [eb]; exact nI_clamp (by omega)
          rw [hbh] at hs9
          refine lv_istore (lv' := [(5, .int (nI j)), (0, .ref (y (100 + (8 * gt + kk)))), (1, .int x), (2, .int (mClk g gt)), (3, .int x3), (4, .int (nI r))]) hx hb dX2_takeOut_25 hl (by decide) rfl (fun ls hl => ?_)
          refine lv_iload hx hb dX2_takeOut_27 (lv_at hl 0 rfl) ?_
          refine lv_iconst (v := (-1)) hx hb dX2_takeOut_29 (by decide) ?_
          refine lv_icmp_ne (tgt := 34) hx hb dX2_takeOut_30 (by decide) (fun c_30 => ?_) (fun c_30 => absurd c_30 (fun z9 => nI_pos (n := j) (by omega) (by rw [z9]; decide)))
          refine lv_aload_n hx hb dX2_takeOut_34 rfl (lv_at hl 1 rfl) ?_
          refine g_202 C hinX2 hW (hC.1.lay.ek (8 * gt + kk) (by omega)) (hC.1.lay.r202 (8 * gt + kk) (by omega)) l12 dX2_takeOut_35 ?_
          refine lv_iload hx hb dX2_takeOut_38 (lv_at hl 0 rfl) ?_
          refine k_callVq (As := [.int (nI j)]) (rest := []) C hml (c_Jx4a65c_get_915e3 (q := cH ck h) hA (by rw [List.length_map]; exact hjl) (by rw [List.getElem?_map, hh]; rfl)) (cwV 1 hts gX2_takeOut_Jx4a65c_get_915e3 rfl rfl rfl (by decide +kernel) ⟨by decide, by decide⟩) hW hS hB ((hC.2.hl (8 * gt + kk) (by omega)).1).1 (pAt_12 ((hC.2.hl (8 * gt + kk) (by omega)).1).2) rfl rfl hl.1 rfl (Nat.le_of_ble_eq_true rfl) dX2_takeOut_40 ⟨Nat.le_of_ble_eq_true rfl, Nat.le_of_ble_eq_true rfl⟩ (fun r9 S3 H locs hp9 hW hS => ?_)
          obtain ⟨e8, e9⟩ := hp9
          rw [e8] at hW
          subst e9
          refine k_cast4 C hW (hC.1.hv (8 * gt + kk) (by omega) h hm9).1 hE.2.2.2.1 (show Cond.classLink RX2 55 "LeaseGates$Hold" ∈ wsX2_takeOut by decide +kernel) dX2_takeOut_43 ?_
          refine lv_astore (lv' := [(6, .ref (cH ck h)), (5, .int (nI j)), (0, .ref (y (100 + (8 * gt + kk)))), (1, .int x), (2, .int (mClk g gt)), (3, .int x3), (4, .int (nI r))]) hx hb dX2_takeOut_46 hl (by decide) rfl (fun ls hl => ?_)
          refine lv_iload_n hx hb dX2_takeOut_48 rfl (lv_at hl 5 rfl) ?_
          refine lv_aload hx hb dX2_takeOut_49 (lv_at hl 0 rfl) ?_
          refine g_403 C hinX4 hW (hC.1.hv (8 * gt + kk) (by omega) h hm9).1 l61 dX2_takeOut_51 ?_
          refine top_i (show fI Sk 403 (cH ck h) = gk.1 28 h from (hC.1.hv (8 * gt + kk) (by omega) h hm9).2.2.2.2.1) ?_
          refine va_mmin hx hb (hml.trans hl.1.symm) hown (hts (.methodLink RX2 75 Lib.Math.min.name) (by decide +kernel)) (hts (.static Lib.Math.min.name) (by decide +kernel)) (hts (.initialized "java/lang/Math") (by decide +kernel)) (hts (.code Lib.Math.min.name Lib.Math.min.code 2 (some .int)) (by decide +kernel)) (by decide) (Nat.le_of_ble_eq_true rfl) (Nat.le_of_ble_eq_true rfl) (Nat.le_of_ble_eq_true rfl) dX2_takeOut_54 ?_
          refine top_i (show iMin x3 (gk.1 28 h) = mTk1 gk h x3 from rfl) ?_
          refine lv_istore (lv' := [(7, .int (mTk1 gk h x3)), (6, .ref (cH ck h)), (5, .int (nI j)), (0, .ref (y (100 + (8 * gt + kk)))), (1, .int x), (2, .int (mClk g gt)), (3, .int x3), (4, .int (nI r))]) hx hb dX2_takeOut_57 hl (by decide) rfl (fun ls hl => ?_)
          refine lv_iload_n hx hb dX2_takeOut_59 rfl (lv_at hl 6 rfl) ?_
          refine lv_iload hx hb dX2_takeOut_60 (lv_at hl 0 rfl) ?_
          refine lv_isub hx hb dX2_takeOut_62 ?_
          refine lv_istore_n (lv' := [(3, .int (x3 - (mTk1 gk h x3))), (7, .int (mTk1 gk h x3)), (6, .ref (cH ck h)), (5, .int (nI j)), (0, .ref (y (100 + (8 * gt + kk)))), (1, .int x), (2, .int (mClk g gt)), (4, .int (nI r))]) hx hb dX2_takeOut_63 rfl hl (by decide) rfl (fun ls hl => ?_)
          refine lv_aload hx hb dX2_takeOut_64 (lv_at hl 2 rfl) ?_
          refine lv_dup hx hb dX2_takeOut_66 rfl ?_
          refine g_403 C hinX4 hW (hC.1.hv (8 * gt + kk) (by omega) h hm9).1 l61 dX2_takeOut_67 ?_
          refine top_i (show fI Sk 403 (cH ck h) = gk.1 28 h from (hC.1.hv (8 * gt + kk) (by omega) h hm9).2.2.2.2.1) ?_
          refine lv_iload hx hb dX2_takeOut_70 (lv_at hl 1 rfl) ?_
          refine lv_isub hx hb dX2_takeOut_72 ?_
          refine p_403 C hinX4 hW hS (hC.1.hv (8 * gt + kk) (by omega) h hm9).1 l61 dX2_takeOut_73 (fun S4 H locs e1 hW hS => ?_)
          have hF9 : CF S S4 y := by rw [e1]; exact hF.sI (hC.1.hv (8 * gt + kk) (by omega) h hm9).1 (by decide)
          have hC9 : CR S4 y dE (iI gk 28 h ((gk.1 28 h) - (mTk1 gk h x3))) ck := by rw [e1]; exact hC.whold (hC.1.hv (8 * gt + kk) (by omega) h hm9).2.1 hh3
          replace hA : AL S4 dE (y (200 + (8 * gt + kk))) (cA ck (8 * gt + kk)) ((hs gk gt kk n).map (cH ck)) := by rw [e1]; exact hA
          clear hC hF e1
          have hF := hF9
          have hC := hC9
          clear hC9 hF9
          refine lv_aload hx hb dX2_takeOut_76 (lv_at hl 2 rfl) ?_
          refine g_403 C hinX4 hW (hC.1.hv (8 * gt + kk) (by omega) h hm9).1 l61 dX2_takeOut_78 ?_
          refine top_i (show fI S4 403 (cH ck h) = gk.1 28 h - mTk1 gk h x3 from ((hC.1.hv (8 * gt + kk) (by omega) h hm9).2.2.2.2.1.trans iI_s)) ?_
          refine lv_if_ne (tgt := 94) hx hb dX2_takeOut_81 (by decide) (fun c_81 => ?_) (fun c_81 => ?_)
          · refine lv_iinc (v := nI (r - 1)) (lv' := [(4, .int (nI (r - 1))), (3, .int (x3 - (mTk1 gk h x3))), (7, .int (mTk1 gk h x3)), (6, .ref (cH ck h)), (5, .int (nI j)), (0, .ref (y (100 + (8 * gt + kk)))), (1, .int x), (2, .int (mClk g gt))]) hx hb dX2_takeOut_94 hl (k := 7) rfl (nI_dec (by omega)) (by decide) rfl (fun ls hl => ?_)
            refine lv_goto (tgt := 11) hx hb dX2_takeOut_97 (by decide) ?_
            exact ih_lp _ (r - 1) (mTkS gk gt kk n x3) ck _ _ _ ls (by omega) (by rw [mTkS, hbh, mTk2, if_neg c_81]; exact hC) hF (by rw [mTkS, hbh, hs_tk hg hh, if_neg c_81]; exact hD) (by obtain ⟨fu, z1, z2⟩ := hR; obtain ⟨fv, rfl⟩ : ∃ fv, fu = fv + 1 := ⟨fu - 1, by omega⟩; exact ⟨fv, by have := hs9.2.2.1; have := hs9.2.2.2; omega, by rw [← z2, mTkD, if_pos (Int32.not_le.mp c_17), hbh]⟩) hs9.1 hs9.2.1 (by have := hs9.2.2.1; omega) (by rw [mTkS, hbh, hs_tk hg hh]; exact ⟨fun z => by rw [if_neg c_81]; exact absurd z (by have := tk_zero c_81 (hk1 h (mem_fil.mp (List.mem_of_getElem? hh)).1 (mem_fil.mp (List.mem_of_getElem? hh)).2) hx0 hx1; omega), by omega⟩) (by rw [mTkS, hbh]; exact hT_tk hg hT) ((mTkS_f gk gt kk n x3).trans hf) hW hS (lv_sub hl [5, 6, 7, 1, 0] rfl)
          · refine lv_aload_n hx hb dX2_takeOut_84 rfl (lv_at hl 4 rfl) ?_
            refine g_202 C hinX2 hW (hC.1.lay.ek (8 * gt + kk) (by omega)) (hC.1.lay.r202 (8 * gt + kk) (by omega)) l12 dX2_takeOut_85 ?_
            refine lv_iload hx hb dX2_takeOut_88 (lv_at hl 3 rfl) ?_
            refine k_callVq (As := [.int (nI j)]) (rest := []) C hml (c_Jx4a65c_remove_915e3 (q := cH ck h) hA (by rw [List.length_map]; exact hjl) (by rw [List.getElem?_map, hh]; rfl) (hA.el (fun z hz => (hC.1.hv (8 * gt + kk) (by omega) z (by rw [hD.1]; exact hz)).1)) hE.2.1) (cwV 1 hts gX2_takeOut_Jx4a65c_remove_915e3 rfl rfl rfl (by decide +kernel) ⟨by decide, by decide⟩) hW hS hB ((hC.2.hl (8 * gt + kk) (by omega)).1).1 (pAt_12 ((hC.2.hl (8 * gt + kk) (by omega)).1).2) rfl rfl hl.1 rfl (Nat.le_of_ble_eq_true rfl) dX2_takeOut_90 ⟨Nat.le_of_ble_eq_true rfl, Nat.le_of_ble_eq_true rfl⟩ (fun r9 S5 H locs hp9 hW hS => ?_)
            obtain ⟨⟨o9, a9⟩, e9⟩ := hp9
            subst e9
            have hfr : Fr S4 S5 (fun b => b = y (200 + (8 * gt + kk)) ∨ b = cA ck (8 * gt + kk)) := o9.fr (Or.inl rfl) (Or.inl (Or.inr rfl))
            have hF9 : CF S S5 y := hF.tr (CF.lk hfr (LK_list hC.2 (by omega) hA.1))
            have hC9 : CR S5 y dE (iI gk 28 h ((gk.1 28 h) - (mTk1 gk h x3))) (csP ck (8 * gt + kk) (cA ck (8 * gt + kk)) ((hs gk gt kk n).eraseIdx j)) := hC.hlist (by omega) hfr (by rw [map_erase]; exact a9) (Or.inl rfl) (hW.nd hE.1.2.2) (fun x hx => by rw [hD.1]; exact mem_erase hx)
            clear hC hF
            have hC := hC9
            have hF := hF9
            refine lv_pop hx hb dX2_takeOut_93 rfl ?_
            refine lv_iinc (v := nI (r - 1)) (lv' := [(4, .int (nI (r - 1))), (3, .int (x3 - (mTk1 gk h x3))), (7, .int (mTk1 gk h x3)), (6, .ref (cH ck h)), (5, .int (nI j)), (0, .ref (y (100 + (8 * gt + kk)))), (1, .int x), (2, .int (mClk g gt))]) hx hb dX2_takeOut_94 hl (k := 7) rfl (nI_dec (by omega)) (by decide) rfl (fun ls hl => ?_)
            refine lv_goto (tgt := 11) hx hb dX2_takeOut_97 (by decide) ?_
            exact ih_lp _ (r - 1) (mTkS gk gt kk n x3) (csP ck (8 * gt + kk) (cA ck (8 * gt + kk)) ((hs gk gt kk n).eraseIdx j)) _ _ _ ls (by omega) (by rw [mTkS, hbh, mTk2, if_pos c_81]; exact hC.g27) hF (by rw [mTkS, hbh, hs_tk hg hh, if_pos c_81]; exact hD.p) (by obtain ⟨fu, z1, z2⟩ := hR; obtain ⟨fv, rfl⟩ : ∃ fv, fu = fv + 1 := ⟨fu - 1, by omega⟩; exact ⟨fv, by have := hs9.2.2.1; have := hs9.2.2.2; omega, by rw [← z2, mTkD, if_pos (Int32.not_le.mp c_17), hbh]⟩) hs9.1 hs9.2.1 (by have := hs9.2.2.1; omega) (by rw [mTkS, hbh, hs_tk hg hh]; exact ⟨fun z => by rw [if_pos c_81, List.length_eraseIdx_of_lt hjl]; have := hr0.1 hx0; omega, by omega⟩) (by rw [mTkS, hbh]; exact hT_tk hg hT) ((mTkS_f gk gt kk n x3).trans hf) hW hS (lv_sub hl [5, 6, 7, 1, 0] rfl)
  exact lp (L.length + 1) x L.length g c0 _ _ _ ls (Nat.lt_succ_self _) hC hF (by rw [← hL]; exact CsD.rf) ⟨10001, by omega, rfl⟩ hk0 hl9 hx9.2 (by rw [← hL0]; exact ⟨fun _ => Nat.le_refl _, hl3⟩) hT0 rfl hW hS (lv_sub hl [2, 3, 4, 1, 0] rfl)
