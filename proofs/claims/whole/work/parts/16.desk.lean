abbrev kLive (g : MS) (now : Int32) (h : Nat) : Prop := now - g.1 29 h < mSpan g h
abbrev kHalf (g : MS) (now : Int32) (h : Nat) : Prop := mSpan g h ≤ 2 * (now - g.1 29 h)
abbrev kEnd (g : MS) (h : Nat) : Int32 := g.1 29 h + mSpan g h
def lSum (g : MS) (now : Int32) (L : List Nat) : Int32 := L.foldl (fun z h => if kLive g now h then z + g.1 28 h else z) 0
theorem lSum_succ {g : MS} {now : Int32} {L : List Nat} {k h : Nat} (hh : L[k]? = some h) : lSum g now (L.take (k + 1)) = if kLive g now h then lSum g now (L.take k) + g.1 28 h else lSum g now (L.take k) := by
  unfold lSum
  rw [List.take_add_one, hh, List.foldl_append]
  rfl
set_option maxRecDepth 100000 in
set_option maxHeartbeats 1000000 in
theorem c_X2_liveTokens {l : Launch} {D : va_G} {cy : Nat → ClassId} {B : Nat} {s0 : State} {S : PS} {y : Nat → Nat} {dE mi : Nat} {g : MS} {c0 : CS} {gt kk : Nat} {x : Int32} {L : List Nat} (hC : CR S y dE g c0) (hE : EnvC dE mi B s0) (hg : gt < 6) (hk : kk < 8) (hL : cP c0 (8 * gt + kk) = L) : KI l yX2_liveTokens wsX2_liveTokens ({ frames := 3, cells := 0, slots := 0, locals := 64 }) D cy B s0 [.ref (y (100 + (8 * gt + kk))), .int x] S (fun r S2 => S2 = S ∧ r = lSum g x L) 0 0 := by
  refine k_body (own := RX2) (cc := cX2_liveTokens) (maxL := 5) (ret := (some .int)) rfl (by decide) rfl (Nat.le_of_ble_eq_true rfl) ?_
  intro p e s m below meth c C hml hr hlk hnm hB hW ls hl
  obtain ⟨hx, hb, hts, hown, hK, hEn⟩ := id C
  have hS : va_S (Aw B) s.heap s.heap [] := va_S.rf
  have hinX2 : ∀ w ∈ wsX20, w ∈ wsX2_liveTokens := by decide +kernel
  have hinX4 : ∀ w ∈ wsX40, w ∈ wsX2_liveTokens := by decide +kernel
  have l12 : Cond.fieldLink RX2 12 "LeaseGates$Desk" "holds" "Ljava/util/ArrayList;" ∈ wsX2_liveTokens := by decide +kernel
  have l61 : Cond.fieldLink RX2 61 "LeaseGates$Hold" "tokens" "I" ∈ wsX2_liveTokens := by decide +kernel
  have hl : lv_has ls 5 [(0, .ref (y (100 + (8 * gt + kk)))), (1, .int x)] := hl
  have hF : CF S S y := CF.rf
  have hl4 : L.length ≤ 400 := by rw [← hL]; have z := (hC.2.hl (8 * gt + kk) (by omega)).2.2.2.1; rw [List.length_map] at z; exact z
  have hA : AL S dE (y (200 + (8 * gt + kk))) (cA c0 (8 * gt + kk)) (L.map (cH c0)) := by rw [← hL]; exact hC.2.hl (8 * gt + kk) (by omega)
  refine lv_iconst (v := 0) hx hb dX2_liveTokens_0 (by decide) ?_
  refine lv_istore_n (lv' := [(2, .int 0), (0, .ref (y (100 + (8 * gt + kk)))), (1, .int x)]) hx hb dX2_liveTokens_1 rfl hl (by decide) rfl (fun ls hl => ?_)
  refine lv_iconst (v := 0) hx hb dX2_liveTokens_2 (by decide) ?_
  refine lv_istore_n (lv' := [(3, .int 0), (2, .int 0), (0, .ref (y (100 + (8 * gt + kk)))), (1, .int x)]) hx hb dX2_liveTokens_3 rfl hl (by decide) rfl (fun ls hl => ?_)
  have lp : ∀ (d k : Nat) (x2 : Int32) (H : Heap) (locs : List Loc) (ls : Array Slot), k ≤ L.length → L.length - k < d → x2 = lSum g x (L.take k) → PW D cy B S H → va_S (Aw B) s.heap H locs → lv_has ls 5 [(0, .ref (y (100 + (8 * gt + kk)))), (1, .int x), (2, .int x2), (3, .int (nI k))] → W p l e ({ frames := 3, cells := 0, slots := 0, locals := 64 }) s m [.ref (y (100 + (8 * gt + kk))), .int x].toArray below meth c H locs 0 0 (MQ below (va_Qi (fun r S2 => S2 = S ∧ r = lSum g x L) (PreW D cy B s0) (Aw B)) [.ref (y (100 + (8 * gt + kk))), .int x].toArray s 0 0 (Aw B)) (F0 m 4 ls []) := by
    intro d
    induction d with
    | zero => intro k x2 H locs ls _ hd; exact absurd hd (Nat.not_lt_zero _)
    | succ d ih =>
      intro k x2 H locs ls hk hd e2 hW hS hl
      refine lv_iload_n hx hb dX2_liveTokens_4 rfl (lv_at hl 3 rfl) ?_
      refine lv_aload_n hx hb dX2_liveTokens_5 rfl (lv_at hl 0 rfl) ?_
      refine g_202 C hinX2 hW (hC.1.lay.ek (8 * gt + kk) (by omega)) (hC.1.lay.r202 (8 * gt + kk) (by omega)) l12 dX2_liveTokens_6 ?_
      refine k_callVi (As := []) (rest := [.int (nI k)]) C hml (c_Jx4a65c_size_8abf5 hA.1) (cwV 0 hts gX2_liveTokens_Jx4a65c_size_8abf5 rfl rfl rfl (by decide +kernel) ⟨by decide, by decide⟩) hW hS hB ((hC.2.hl (8 * gt + kk) (by omega)).1).1 (pAt_12 ((hC.2.hl (8 * gt + kk) (by omega)).1).2) rfl rfl hl.1 rfl (Nat.le_of_ble_eq_true rfl) dX2_liveTokens_9 ⟨Nat.le_of_ble_eq_true rfl, Nat.le_of_ble_eq_true rfl⟩ (fun r9 S1 H locs hp9 hW hS => ?_)
      obtain ⟨e8, e9⟩ := hp9
      rw [e8] at hW
      replace e9 := e9.trans (hA.2.2.1.trans (congrArg nI (List.length_map _)))
      subst e9
      refine lv_icmp_ge (tgt := 51) hx hb dX2_liveTokens_12 (by decide) (fun c_12 => ?_) (fun c_12 => ?_)
      · have q_12 : L.length ≤ k := (nI_leI (a := L.length) (b := k) (by omega) (by omega)).mp c_12
        refine lv_iload_n hx hb dX2_liveTokens_51 rfl (lv_at hl 2 rfl) ?_
        exact k_iret C hr hlk hW hS hB ⟨rfl, by rw [e2, List.take_of_length_le (by omega)]⟩ (Nat.le_refl _) (Nat.le_refl _) dX2_liveTokens_52
      · have q_12 : ¬ (L.length ≤ k) := fun z => c_12 ((nI_leI (a := L.length) (b := k) (by omega) (by omega)).mpr z)
        obtain ⟨h, hh⟩ : ∃ x9, L[k]? = some x9 := ⟨_, List.getElem?_eq_getElem (by omega)⟩
        have hvh := hC.1.hv (8 * gt + kk) (by omega) h (by rw [hL]; exact List.mem_of_getElem? hh)
        refine lv_aload_n hx hb dX2_liveTokens_15 rfl (lv_at hl 0 rfl) ?_
        refine g_202 C hinX2 hW (hC.1.lay.ek (8 * gt + kk) (by omega)) (hC.1.lay.r202 (8 * gt + kk) (by omega)) l12 dX2_liveTokens_16 ?_
        refine lv_iload_n hx hb dX2_liveTokens_19 rfl (lv_at hl 3 rfl) ?_
        refine k_callVq (As := [.int (nI k)]) (rest := []) C hml (c_Jx4a65c_get_915e3 (q := cH c0 h) hA (by rw [List.length_map]; omega) (by rw [List.getElem?_map, hh]; rfl)) (cwV 1 hts gX2_liveTokens_Jx4a65c_get_915e3 rfl rfl rfl (by decide +kernel) ⟨by decide, by decide⟩) hW hS hB ((hC.2.hl (8 * gt + kk) (by omega)).1).1 (pAt_12 ((hC.2.hl (8 * gt + kk) (by omega)).1).2) rfl rfl hl.1 rfl (Nat.le_of_ble_eq_true rfl) dX2_liveTokens_20 ⟨Nat.le_of_ble_eq_true rfl, Nat.le_of_ble_eq_true rfl⟩ (fun r9 S2 H locs hp9 hW hS => ?_)
        obtain ⟨e8, e9⟩ := hp9
        rw [e8] at hW
        subst e9
        refine k_cast4 C hW hvh.1 hE.2.2.2.1 (show Cond.classLink RX2 55 "LeaseGates$Hold" ∈ wsX2_liveTokens by decide +kernel) dX2_liveTokens_23 ?_
        refine lv_astore (lv' := [(4, .ref (cH c0 h)), (0, .ref (y (100 + (8 * gt + kk)))), (1, .int x), (2, .int x2), (3, .int (nI k))]) hx hb dX2_liveTokens_26 hl (by decide) rfl (fun ls hl => ?_)
        refine lv_aload hx hb dX2_liveTokens_28 (lv_at hl 0 rfl) ?_
        refine lv_iload_n hx hb dX2_liveTokens_30 rfl (lv_at hl 2 rfl) ?_
        refine k_callVi (As := [.int x]) (rest := []) C hml (c_X4_isLive hvh.1) (cwV 1 hts gX2_liveTokens_X4_isLive rfl rfl rfl (by decide +kernel) ⟨by decide, by decide⟩) hW hS hB (hvh.1).1 (pAt_4 (hvh.1).2) rfl rfl hl.1 rfl (Nat.le_of_ble_eq_true rfl) dX2_liveTokens_31 ⟨Nat.le_of_ble_eq_true rfl, Nat.le_of_ble_eq_true rfl⟩ (fun r9 S3 H locs hp9 hW hS => ?_)
        obtain ⟨e8, e9⟩ := hp9
        rw [e8] at hW
        rw [hvh.2.2.1, hvh.2.2.2.1] at e9
        subst e9
        refine lv_if_eq (tgt := 45) hx hb dX2_liveTokens_34 (by decide) (fun c_34 => ?_) (fun c_34 => ?_)
        · have q_34 : ¬ (kLive g x h) := ite0.mp c_34
          refine lv_iinc (v := nI (k + 1)) (lv' := [(3, .int (nI (k + 1))), (4, .ref (cH c0 h)), (0, .ref (y (100 + (8 * gt + kk)))), (1, .int x), (2, .int x2)]) hx hb dX2_liveTokens_45 hl (k := 4) rfl (nI_add k 1) (by decide) rfl (fun ls hl => ?_)
          refine lv_goto (tgt := 4) hx hb dX2_liveTokens_48 (by decide) ?_
          exact ih (k + 1) _ _ _ ls (by omega) (by omega) (by rw [lSum_succ hh, if_neg q_34]; exact e2) hW hS (lv_sub hl [2, 3, 4, 0] rfl)
        · have q_34 : (kLive g x h) := ite1.mp c_34
          refine lv_iload_n hx hb dX2_liveTokens_37 rfl (lv_at hl 3 rfl) ?_
          refine lv_aload hx hb dX2_liveTokens_38 (lv_at hl 0 rfl) ?_
          refine g_403 C hinX4 hW hvh.1 l61 dX2_liveTokens_40 ?_
          refine top_i (show fI S 403 (cH c0 h) = g.1 28 h from hvh.2.2.2.2.1) ?_
          refine lv_iadd hx hb dX2_liveTokens_43 ?_
          refine lv_istore_n (lv' := [(2, .int (x2 + (g.1 28 h))), (4, .ref (cH c0 h)), (0, .ref (y (100 + (8 * gt + kk)))), (1, .int x), (3, .int (nI k))]) hx hb dX2_liveTokens_44 rfl hl (by decide) rfl (fun ls hl => ?_)
          refine lv_iinc (v := nI (k + 1)) (lv' := [(3, .int (nI (k + 1))), (2, .int (x2 + (g.1 28 h))), (4, .ref (cH c0 h)), (0, .ref (y (100 + (8 * gt + kk)))), (1, .int x)]) hx hb dX2_liveTokens_45 hl (k := 4) rfl (nI_add k 1) (by decide) rfl (fun ls hl => ?_)
          refine lv_goto (tgt := 4) hx hb dX2_liveTokens_48 (by decide) ?_
          exact ih (k + 1) _ _ _ ls (by omega) (by omega) (by rw [lSum_succ hh, if_pos q_34, e2]) hW hS (lv_sub hl [3, 4, 1, 0] rfl)
  exact lp (L.length - 0 + 1) 0 0 _ _ ls (by omega) (by omega) rfl hW hS (lv_sub hl [2, 3, 1, 0] rfl)
/-- the place of the live hold that ends first, among the first k -/
def bIx (g : MS) (now : Int32) (L : List Nat) : Nat → Int32
  | 0 => -1
  | k + 1 => if kLive g now (L.getD k 0) ∧ (bIx g now L k = -1 ∨ kEnd g (L.getD k 0) < kEnd g (L.getD (bIx g now L k).toNatClampNeg 0)) then nI k else bIx g now L k
theorem getD_of {L : List Nat} {k h : Nat} (hh : L[k]? = some h) : L.getD k 0 = h := by rw [List.getD_eq_getElem?_getD, hh]; rfl
theorem bIx_in (g : MS) (now : Int32) (L : List Nat) : ∀ k, bIx g now L k = -1 ∨ ∃ j, j < k ∧ bIx g now L k = nI j := by
  intro k
  induction k with
  | zero => exact Or.inl rfl
  | succ k ih =>
    rw [bIx]
    split
    · exact Or.inr ⟨k, Nat.lt_succ_self _, rfl⟩
    · rcases ih with z | ⟨j, h1, h2⟩
      · exact Or.inl z
      · exact Or.inr ⟨j, by omega, h2⟩
theorem bIx_n1 {g : MS} {now : Int32} {L : List Nat} {k h : Nat} (hh : L[k]? = some h) (z : ¬ kLive g now h) : bIx g now L (k + 1) = bIx g now L k := by
  rw [bIx, getD_of hh, if_neg (fun q => z q.1)]
theorem bIx_y1 {g : MS} {now : Int32} {L : List Nat} {k h : Nat} (hh : L[k]? = some h) (z : kLive g now h) (z2 : bIx g now L k = -1) : bIx g now L (k + 1) = nI k := by
  rw [bIx, getD_of hh, if_pos ⟨z, Or.inl z2⟩]
theorem bIx_y2 {g : MS} {now : Int32} {L : List Nat} {k h j h1 : Nat} (hh : L[k]? = some h) (z : kLive g now h) (ej : bIx g now L k = nI j) (hj : j < 2 ^ 31) (hh1 : L[j]? = some h1) (z2 : kEnd g h < kEnd g h1) : bIx g now L (k + 1) = nI k := by
  rw [bIx, getD_of hh, if_pos ⟨z, Or.inr (by rw [ej, nI_clamp hj, getD_of hh1]; exact z2)⟩]
theorem bIx_n2 {g : MS} {now : Int32} {L : List Nat} {k h j h1 : Nat} (hh : L[k]? = some h) (ej : bIx g now L k = nI j) (hj : j < 2 ^ 31) (hn : ¬ nI j = -1) (hh1 : L[j]? = some h1) (z2 : ¬ kEnd g h < kEnd g h1) : bIx g now L (k + 1) = nI j := by
  rw [bIx, getD_of hh, if_neg, ej]
  intro q
  rcases q.2 with u | u
  · exact hn (ej.symm.trans u)
  · rw [ej, nI_clamp hj, getD_of hh1] at u; exact z2 u
set_option maxRecDepth 100000 in
set_option maxHeartbeats 1000000 in
theorem c_X2_liveHoldThatEndsFirst {l : Launch} {D : va_G} {cy : Nat → ClassId} {B : Nat} {s0 : State} {S : PS} {y : Nat → Nat} {dE mi : Nat} {g : MS} {c0 : CS} {gt kk : Nat} {x : Int32} {L : List Nat} (hC : CR S y dE g c0) (hE : EnvC dE mi B s0) (hg : gt < 6) (hk : kk < 8) (hL : cP c0 (8 * gt + kk) = L) : KI l yX2_liveHoldThatEndsFirst wsX2_liveHoldThatEndsFirst ({ frames := 3, cells := 0, slots := 0, locals := 64 }) D cy B s0 [.ref (y (100 + (8 * gt + kk))), .int x] S (fun r S2 => S2 = S ∧ r = bIx g x L L.length) 0 0 := by
  refine k_body (own := RX2) (cc := cX2_liveHoldThatEndsFirst) (maxL := 5) (ret := (some .int)) rfl (by decide) rfl (Nat.le_of_ble_eq_true rfl) ?_
  intro p e s m below meth c C hml hr hlk hnm hB hW ls hl
  obtain ⟨hx, hb, hts, hown, hK, hEn⟩ := id C
  have hS : va_S (Aw B) s.heap s.heap [] := va_S.rf
  have hinX2 : ∀ w ∈ wsX20, w ∈ wsX2_liveHoldThatEndsFirst := by decide +kernel
  have l12 : Cond.fieldLink RX2 12 "LeaseGates$Desk" "holds" "Ljava/util/ArrayList;" ∈ wsX2_liveHoldThatEndsFirst := by decide +kernel
  have hl : lv_has ls 5 [(0, .ref (y (100 + (8 * gt + kk)))), (1, .int x)] := hl
  have hF : CF S S y := CF.rf
  have hl4 : L.length ≤ 400 := by rw [← hL]; have z := (hC.2.hl (8 * gt + kk) (by omega)).2.2.2.1; rw [List.length_map] at z; exact z
  have hA : AL S dE (y (200 + (8 * gt + kk))) (cA c0 (8 * gt + kk)) (L.map (cH c0)) := by rw [← hL]; exact hC.2.hl (8 * gt + kk) (by omega)
  refine lv_iconst (v := (-1)) hx hb dX2_liveHoldThatEndsFirst_0 (by decide) ?_
  refine lv_istore_n (lv' := [(2, .int (-1)), (0, .ref (y (100 + (8 * gt + kk)))), (1, .int x)]) hx hb dX2_liveHoldThatEndsFirst_1 rfl hl (by decide) rfl (fun ls hl => ?_)
  refine lv_iconst (v := 0) hx hb dX2_liveHoldThatEndsFirst_2 (by decide) ?_
  refine lv_istore_n (lv' := [(3, .int 0), (2, .int (-1)), (0, .ref (y (100 + (8 * gt + kk)))), (1, .int x)]) hx hb dX2_liveHoldThatEndsFirst_3 rfl hl (by decide) rfl (fun ls hl => ?_)
  have lp : ∀ (d k : Nat) (x2 : Int32) (H : Heap) (locs : List Loc) (ls : Array Slot), k ≤ L.length → L.length - k < d → x2 = bIx g x L k → PW D cy B S H → va_S (Aw B) s.heap H locs → lv_has ls 5 [(0, .ref (y (100 + (8 * gt + kk)))), (1, .int x), (2, .int x2), (3, .int (nI k))] → W p l e ({ frames := 3, cells := 0, slots := 0, locals := 64 }) s m [.ref (y (100 + (8 * gt + kk))), .int x].toArray below meth c H locs 0 0 (MQ below (va_Qi (fun r S2 => S2 = S ∧ r = bIx g x L L.length) (PreW D cy B s0) (Aw B)) [.ref (y (100 + (8 * gt + kk))), .int x].toArray s 0 0 (Aw B)) (F0 m 4 ls []) := by
    intro d
    induction d with
    | zero => intro k x2 H locs ls _ hd; exact absurd hd (Nat.not_lt_zero _)
    | succ d ih =>
      intro k x2 H locs ls hk hd e2 hW hS hl
      refine lv_iload_n hx hb dX2_liveHoldThatEndsFirst_4 rfl (lv_at hl 3 rfl) ?_
      refine lv_aload_n hx hb dX2_liveHoldThatEndsFirst_5 rfl (lv_at hl 0 rfl) ?_
      refine g_202 C hinX2 hW (hC.1.lay.ek (8 * gt + kk) (by omega)) (hC.1.lay.r202 (8 * gt + kk) (by omega)) l12 dX2_liveHoldThatEndsFirst_6 ?_
      refine k_callVi (As := []) (rest := [.int (nI k)]) C hml (c_Jx4a65c_size_8abf5 hA.1) (cwV 0 hts gX2_liveHoldThatEndsFirst_Jx4a65c_size_8abf5 rfl rfl rfl (by decide +kernel) ⟨by decide, by decide⟩) hW hS hB ((hC.2.hl (8 * gt + kk) (by omega)).1).1 (pAt_12 ((hC.2.hl (8 * gt + kk) (by omega)).1).2) rfl rfl hl.1 rfl (Nat.le_of_ble_eq_true rfl) dX2_liveHoldThatEndsFirst_9 ⟨Nat.le_of_ble_eq_true rfl, Nat.le_of_ble_eq_true rfl⟩ (fun r9 S1 H locs hp9 hW hS => ?_)
      obtain ⟨e8, e9⟩ := hp9
      rw [e8] at hW
      replace e9 := e9.trans (hA.2.2.1.trans (congrArg nI (List.length_map _)))
      subst e9
      refine lv_icmp_ge (tgt := 72) hx hb dX2_liveHoldThatEndsFirst_12 (by decide) (fun c_12 => ?_) (fun c_12 => ?_)
      · have q_12 : L.length ≤ k := (nI_leI (a := L.length) (b := k) (by omega) (by omega)).mp c_12
        refine lv_iload_n hx hb dX2_liveHoldThatEndsFirst_72 rfl (lv_at hl 2 rfl) ?_
        exact k_iret C hr hlk hW hS hB ⟨rfl, by rw [e2, show k = L.length by omega]⟩ (Nat.le_refl _) (Nat.le_refl _) dX2_liveHoldThatEndsFirst_73
      · have q_12 : ¬ (L.length ≤ k) := fun z => c_12 ((nI_leI (a := L.length) (b := k) (by omega) (by omega)).mpr z)
        obtain ⟨h, hh⟩ : ∃ x9, L[k]? = some x9 := ⟨_, List.getElem?_eq_getElem (by omega)⟩
        have hvh := hC.1.hv (8 * gt + kk) (by omega) h (by rw [hL]; exact List.mem_of_getElem? hh)
        refine lv_aload_n hx hb dX2_liveHoldThatEndsFirst_15 rfl (lv_at hl 0 rfl) ?_
        refine g_202 C hinX2 hW (hC.1.lay.ek (8 * gt + kk) (by omega)) (hC.1.lay.r202 (8 * gt + kk) (by omega)) l12 dX2_liveHoldThatEndsFirst_16 ?_
        refine lv_iload_n hx hb dX2_liveHoldThatEndsFirst_19 rfl (lv_at hl 3 rfl) ?_
        refine k_callVq (As := [.int (nI k)]) (rest := []) C hml (c_Jx4a65c_get_915e3 (q := cH c0 h) hA (by rw [List.length_map]; omega) (by rw [List.getElem?_map, hh]; rfl)) (cwV 1 hts gX2_liveHoldThatEndsFirst_Jx4a65c_get_915e3 rfl rfl rfl (by decide +kernel) ⟨by decide, by decide⟩) hW hS hB ((hC.2.hl (8 * gt + kk) (by omega)).1).1 (pAt_12 ((hC.2.hl (8 * gt + kk) (by omega)).1).2) rfl rfl hl.1 rfl (Nat.le_of_ble_eq_true rfl) dX2_liveHoldThatEndsFirst_20 ⟨Nat.le_of_ble_eq_true rfl, Nat.le_of_ble_eq_true rfl⟩ (fun r9 S2 H locs hp9 hW hS => ?_)
        obtain ⟨e8, e9⟩ := hp9
        rw [e8] at hW
        subst e9
        refine k_cast4 C hW hvh.1 hE.2.2.2.1 (show Cond.classLink RX2 55 "LeaseGates$Hold" ∈ wsX2_liveHoldThatEndsFirst by decide +kernel) dX2_liveHoldThatEndsFirst_23 ?_
        refine lv_astore (lv' := [(4, .ref (cH c0 h)), (0, .ref (y (100 + (8 * gt + kk)))), (1, .int x), (2, .int x2), (3, .int (nI k))]) hx hb dX2_liveHoldThatEndsFirst_26 hl (by decide) rfl (fun ls hl => ?_)
        refine lv_aload hx hb dX2_liveHoldThatEndsFirst_28 (lv_at hl 0 rfl) ?_
        refine lv_iload_n hx hb dX2_liveHoldThatEndsFirst_30 rfl (lv_at hl 2 rfl) ?_
        refine k_callVi (As := [.int x]) (rest := []) C hml (c_X4_isLive hvh.1) (cwV 1 hts gX2_liveHoldThatEndsFirst_X4_isLive rfl rfl rfl (by decide +kernel) ⟨by decide, by decide⟩) hW hS hB (hvh.1).1 (pAt_4 (hvh.1).2) rfl rfl hl.1 rfl (Nat.le_of_ble_eq_true rfl) dX2_liveHoldThatEndsFirst_31 ⟨Nat.le_of_ble_eq_true rfl, Nat.le_of_ble_eq_true rfl⟩ (fun r9 S3 H locs hp9 hW hS => ?_)
        obtain ⟨e8, e9⟩ := hp9
        rw [e8] at hW
        rw [hvh.2.2.1, hvh.2.2.2.1] at e9
        subst e9
        refine lv_if_eq (tgt := 66) hx hb dX2_liveHoldThatEndsFirst_34 (by decide) (fun c_34 => ?_) (fun c_34 => ?_)
        · have q_34 : ¬ (kLive g x h) := ite0.mp c_34
          refine lv_iinc (v := nI (k + 1)) (lv' := [(3, .int (nI (k + 1))), (4, .ref (cH c0 h)), (0, .ref (y (100 + (8 * gt + kk)))), (1, .int x), (2, .int x2)]) hx hb dX2_liveHoldThatEndsFirst_66 hl (k := 4) rfl (nI_add k 1) (by decide) rfl (fun ls hl => ?_)
          refine lv_goto (tgt := 4) hx hb dX2_liveHoldThatEndsFirst_69 (by decide) ?_
          exact ih (k + 1) _ _ _ ls (by omega) (by omega) (by rw [bIx_n1 hh q_34]; exact e2) hW hS (lv_sub hl [2, 3, 4, 0] rfl)
        · have q_34 : (kLive g x h) := ite1.mp c_34
          refine lv_iload_n hx hb dX2_liveHoldThatEndsFirst_37 rfl (lv_at hl 3 rfl) ?_
          refine lv_iconst (v := (-1)) hx hb dX2_liveHoldThatEndsFirst_38 (by decide) ?_
          refine lv_icmp_eq (tgt := 64) hx hb dX2_liveHoldThatEndsFirst_39 (by decide) (fun c_39 => ?_) (fun c_39 => ?_)
          · refine lv_iload_n hx hb dX2_liveHoldThatEndsFirst_64 rfl (lv_at hl 4 rfl) ?_
            refine lv_istore_n (lv' := [(2, .int (nI k)), (4, .ref (cH c0 h)), (0, .ref (y (100 + (8 * gt + kk)))), (1, .int x), (3, .int (nI k))]) hx hb dX2_liveHoldThatEndsFirst_65 rfl hl (by decide) rfl (fun ls hl => ?_)
            refine lv_iinc (v := nI (k + 1)) (lv' := [(3, .int (nI (k + 1))), (2, .int (nI k)), (4, .ref (cH c0 h)), (0, .ref (y (100 + (8 * gt + kk)))), (1, .int x)]) hx hb dX2_liveHoldThatEndsFirst_66 hl (k := 4) rfl (nI_add k 1) (by decide) rfl (fun ls hl => ?_)
            refine lv_goto (tgt := 4) hx hb dX2_liveHoldThatEndsFirst_69 (by decide) ?_
            exact ih (k + 1) _ _ _ ls (by omega) (by omega) (bIx_y1 hh q_34 (e2.symm.trans c_39)).symm hW hS (lv_sub hl [3, 4, 1, 0] rfl)
          · obtain ⟨j, hj, ej⟩ := (bIx_in g x L k).resolve_left (fun z => c_39 (e2.trans z))
            obtain rfl : x2 = nI j := e2.trans ej
            obtain ⟨h1, hh1⟩ : ∃ x9, L[j]? = some x9 := ⟨_, List.getElem?_eq_getElem (by omega)⟩
            have hvh1 := hC.1.hv (8 * gt + kk) (by omega) h1 (by rw [hL]; exact List.mem_of_getElem? hh1)
            refine lv_aload hx hb dX2_liveHoldThatEndsFirst_42 (lv_at hl 0 rfl) ?_
            refine k_callVi (As := []) (rest := []) C hml (c_X4_end hvh.1) (cwV 0 hts gX2_liveHoldThatEndsFirst_X4_end rfl rfl rfl (by decide +kernel) ⟨by decide, by decide⟩) hW hS hB (hvh.1).1 (pAt_4 (hvh.1).2) rfl rfl hl.1 rfl (Nat.le_of_ble_eq_true rfl) dX2_liveHoldThatEndsFirst_44 ⟨Nat.le_of_ble_eq_true rfl, Nat.le_of_ble_eq_true rfl⟩ (fun r9 S4 H locs hp9 hW hS => ?_)
            obtain ⟨e8, e9⟩ := hp9
            rw [e8] at hW
            rw [hvh.2.2.1, hvh.2.2.2.1] at e9
            subst e9
            refine lv_aload_n hx hb dX2_liveHoldThatEndsFirst_47 rfl (lv_at hl 1 rfl) ?_
            refine g_202 C hinX2 hW (hC.1.lay.ek (8 * gt + kk) (by omega)) (hC.1.lay.r202 (8 * gt + kk) (by omega)) l12 dX2_liveHoldThatEndsFirst_48 ?_
            refine lv_iload_n hx hb dX2_liveHoldThatEndsFirst_51 rfl (lv_at hl 3 rfl) ?_
            refine k_callVq (As := [.int (nI j)]) (rest := [.int (kEnd g h)]) C hml (c_Jx4a65c_get_915e3 (q := cH c0 h1) hA (by rw [List.length_map]; omega) (by rw [List.getElem?_map, hh1]; rfl)) (cwV 1 hts gX2_liveHoldThatEndsFirst_Jx4a65c_get_915e3 rfl rfl rfl (by decide +kernel) ⟨by decide, by decide⟩) hW hS hB ((hC.2.hl (8 * gt + kk) (by omega)).1).1 (pAt_12 ((hC.2.hl (8 * gt + kk) (by omega)).1).2) rfl rfl hl.1 rfl (Nat.le_of_ble_eq_true rfl) dX2_liveHoldThatEndsFirst_52 ⟨Nat.le_of_ble_eq_true rfl, Nat.le_of_ble_eq_true rfl⟩ (fun r9 S5 H locs hp9 hW hS => ?_)
            obtain ⟨e8, e9⟩ := hp9
            rw [e8] at hW
            subst e9
            refine k_cast4 C hW hvh1.1 hE.2.2.2.1 (show Cond.classLink RX2 55 "LeaseGates$Hold" ∈ wsX2_liveHoldThatEndsFirst by decide +kernel) dX2_liveHoldThatEndsFirst_55 ?_
            refine k_callVi (As := []) (rest := [.int (kEnd g h)]) C hml (c_X4_end hvh1.1) (cwV 0 hts gX2_liveHoldThatEndsFirst_X4_end rfl rfl rfl (by decide +kernel) ⟨by decide, by decide⟩) hW hS hB (hvh1.1).1 (pAt_4 (hvh1.1).2) rfl rfl hl.1 rfl (Nat.le_of_ble_eq_true rfl) dX2_liveHoldThatEndsFirst_58 ⟨Nat.le_of_ble_eq_true rfl, Nat.le_of_ble_eq_true rfl⟩ (fun r9 S6 H locs hp9 hW hS => ?_)
            obtain ⟨e8, e9⟩ := hp9
            rw [e8] at hW
            rw [hvh1.2.2.1, hvh1.2.2.2.1] at e9
            subst e9
            refine lv_icmp_ge (tgt := 66) hx hb dX2_liveHoldThatEndsFirst_61 (by decide) (fun c_61 => ?_) (fun c_61 => ?_)
            · refine lv_iinc (v := nI (k + 1)) (lv' := [(3, .int (nI (k + 1))), (4, .ref (cH c0 h)), (0, .ref (y (100 + (8 * gt + kk)))), (1, .int x), (2, .int (nI j))]) hx hb dX2_liveHoldThatEndsFirst_66 hl (k := 4) rfl (nI_add k 1) (by decide) rfl (fun ls hl => ?_)
              refine lv_goto (tgt := 4) hx hb dX2_liveHoldThatEndsFirst_69 (by decide) ?_
              exact ih (k + 1) _ _ _ ls (by omega) (by omega) (bIx_n2 hh ej (by omega) c_39 hh1 (Int32.not_lt.mpr c_61)).symm hW hS (lv_sub hl [2, 3, 4, 0] rfl)
            · refine lv_iload_n hx hb dX2_liveHoldThatEndsFirst_64 rfl (lv_at hl 4 rfl) ?_
              refine lv_istore_n (lv' := [(2, .int (nI k)), (4, .ref (cH c0 h)), (0, .ref (y (100 + (8 * gt + kk)))), (1, .int x), (3, .int (nI k))]) hx hb dX2_liveHoldThatEndsFirst_65 rfl hl (by decide) rfl (fun ls hl => ?_)
              refine lv_iinc (v := nI (k + 1)) (lv' := [(3, .int (nI (k + 1))), (2, .int (nI k)), (4, .ref (cH c0 h)), (0, .ref (y (100 + (8 * gt + kk)))), (1, .int x)]) hx hb dX2_liveHoldThatEndsFirst_66 hl (k := 4) rfl (nI_add k 1) (by decide) rfl (fun ls hl => ?_)
              refine lv_goto (tgt := 4) hx hb dX2_liveHoldThatEndsFirst_69 (by decide) ?_
              exact ih (k + 1) _ _ _ ls (by omega) (by omega) (bIx_y2 hh q_34 ej (by omega) hh1 (Int32.not_le.mp c_61)).symm hW hS (lv_sub hl [3, 4, 1, 0] rfl)
  exact lp (L.length - 0 + 1) 0 (-1) _ _ ls (by omega) (by omega) rfl hW hS (lv_sub hl [2, 3, 1, 0] rfl)
