abbrev kLive (g : MS) (now : Int32) (h : Nat) : Prop := now - g.1 29 h < mSpan g h
abbrev kHalf (g : MS) (now : Int32) (h : Nat) : Prop := mSpan g h ≤ 2 * (now - g.1 29 h)
abbrev kEnd (g : MS) (h : Nat) : Int32 := g.1 29 h + mSpan g h
def lSum (g : MS) (now : Int32) (L : List Nat) : Int32 := L.foldl (fun z h => if kLive g now h then z + g.1 28 h else z) 0
theorem lSum_succ {g : MS} {now : Int32} {L : List Nat} {k h : Nat} (hh : L[k]? = some h) : lSum g now (L.take (k + 1)) = if kLive g now h then lSum g now (L.take k) + g.1 28 h else lSum g now (L.take k) := by
  unfold lSum
  rw [List.take_add_one, hh, List.foldl_append]
  rfl
set_option maxRecDepth 100000 in
set_option maxHeartbeats 1000000 in
theorem c_X2_liveTokens {l : Launch} {D : va_G} {cy : Nat → ClassId} {B : Nat} {s0 : State} {S : PS} {y : Nat → Nat} {dE mi : Nat} {g : MS} {c0 : CS} {gt kk : Nat} {x : Int32} {L : List Nat} (hC : CR S y dE g c0) (hE : EnvC dE mi B s0) (hg : gt < 6) (hk : kk < 8) (hL : cP c0 (8 * gt + kk) = L) : KI l yX2_liveTokens wsX2_liveTokens ({ frames := 3, cells := 0, slots := 0, locals := 64 }) D cy B s0 [.ref (y (100 + (8 * gt + kk))), .int x] S (fun r S2 => S2 = S ∧ r = lSum g x L) 0 0 := by
  refine k_body (own := RX2) (cc := cX2_liveTokens) (maxL := 5) (ret := (some .int)) rfl (by decide) rfl (Nat.le_of_ble_eq_true rfl) ?_
  intro p e s m below meth c C hml hr hlk hnm hB hW ls hl
  obtain ⟨hx, hb, hts, hown, hK, hEn⟩ := id C
  have hS : va_S (Aw B) s.heap s.heap [] := va_S.rf
  have hinX2 : ∀ w ∈ wsX20, w ∈ wsX2_liveTokens := by decide +kernel
  have hinX4 : ∀ w ∈ wsX40, w ∈ wsX2_liveTokens := by decide +kernel
  have l12 : Cond.fieldLink RX2 12 "LeaseGates$Desk" "holds" "Ljava/util/ArrayList;" ∈ wsX2_liveTokens := by decide +kernel
  have l61 : Cond.fieldLink RX2 61 "LeaseGates$Hold" "tokens" "I" ∈ wsX2_liveTokens := by decide +kernel
  have hl : lv_has ls 5 [(0, .ref (y (100 + (8 * gt + kk)))), (1, .int x)] := hl
  have hF : CF S S y := CF.rf
  have hl4 : L.length ≤ 400 := by rw [← hL]; have z := (hC.2.hl (8 * gt + kk) (by omega)).2.2.2.1; rw [List.length_map] at z; exact z
  have hA : AL S dE (y (200 + (8 * gt + kk))) (cA c0 (8 * gt + kk)) (L.map (cH c0)) := by rw [← hL]; exact hC.2.hl (8 * gt + kk) (by omega)
  refine lv_iconst (v := 0) hx hb dX2_liveTokens_0 (by decide) ?_
  refine lv_istore_n (lv' := [(2, .int 0), (0, .ref (y (100 + (8 * gt + kk)))), (1, .int x)]) hx hb dX2_liveTokens_1 rfl hl (by decide) rfl (fun ls hl => ?_)
  refine lv_iconst (v := 0) hx hb dX2_liveTokens_2 (by decide) ?_
  refine lv_istore_n (lv' := [(3, .int 0), (2, .int 0), (0, .ref (y (100 + (8 * gt + kk)))), (1, .int x)]) hx hb dX2_liveTokens_3 rfl hl (by decide) rfl (fun ls hl => ?_)
  have lp : ∀ (d k : Nat) (x2 : Int32) (H : Heap) (locs : List Loc) (ls : Array Slot), k ≤ L.length → L.length - k < d → x2 = lSum g x (L.take k) → PW D cy B S H → va_S (Aw B) s.heap H locs → lv_has ls 5 [(0, .ref (y (100 + (8 * gt + kk)))), (1, .int x), (2, .int x2), (3, .int (nI k))] → W p l e ({ frames := 3, cells := 0, slots := 0, locals := 64 }) s m [.ref (y (100 + (8 * gt + kk))), .int x].toArray below meth c H locs 0 0 (MQ below (va_Qi (fun r S2 => S2 = S ∧ r = lSum g x L) (PreW D cy B s0) (Aw B)) [.ref (y (100 + (8 * gt + kk))), .int x].toArray s 0 0 (Aw B)) (F0 m 4 ls []) := by
    intro d
    induction d with
    | zero => intro k x2 H locs ls _ hd; exact absurd hd (Nat.not_lt_zero _)
    | succ d ih =>
      intro k x2 H locs ls hk hd e2 hW hS hl
      refine lv_iload_n hx hb dX2_liveTokens_4 rfl (lv_at hl 3 rfl) ?_
      refine lv_aload_n hx hb dX2_liveTokens_5 rfl (lv_at hl 0 rfl) ?_
      refine g_202 C hinX2 hW (hC.1.lay.ek (8 * gt + kk) (by omega)) (hC.1.lay.r202 (8 * gt + kk) (by omega)) l12 dX2_liveTokens_6 ?_
      refine k_callVi (As := []) (rest := [.int (nI k)]) C hml (c_Jx4a65c_size_8abf5 hA.1) (cwV 0 hts gX2_liveTokens_Jx4a65c_size_8abf5 rfl rfl rfl (by decide +kernel) ⟨by decide, by decide⟩) hW hS hB ((hC.2.hl (8 * gt + kk) (by omega)).1).1 (pAt_12 ((hC.2.hl (8 * gt + kk) (by omega)).1).2) rfl rfl hl.1 rfl (Nat.le_of_ble_eq_true rfl) dX2_liveTokens_9 ⟨Nat.le_of_ble_eq_true rfl, Nat.le_of_ble_eq_true rfl⟩ (fun r9 S1 H locs hp9 hW hS => ?_)
      obtain ⟨e8, e9⟩ := hp9
      rw [e8] at hW
      replace e9 := e9.trans (hA.2.2.1.trans (congrArg nI (List.length_map _)))
      subst e9
      refine lv_icmp_ge (tgt := 51) hx hb dX2_liveTokens_12 (by decide) (fun c_12 => ?_) (fun c_12 => ?_)
      · have q_12 : L.length ≤ k := (nI_leI (a := L.length) (b := k) (by omega) (by omega)).mp c_12
        refine lv_iload_n hx hb dX2_liveTokens_51 rfl (lv_at hl 2 rfl) ?_
        exact k_iret C hr hlk hW hS hB ⟨rfl, by rw [e2, List.take_of_length_le (by omega)]⟩ (Nat.le_refl _) (Nat.le_refl _) dX2_liveTokens_52
      · have q_12 : ¬ (L.length ≤ k) := fun z => c_12 ((nI_leI (a := L.length) (b := k) (by omega) (by omega)).mpr z)
        obtain ⟨h, hh⟩ : ∃ x9, L[k]? = some x9 := ⟨_, List.getElem?_eq_getElem (by omega)⟩
        have hvh := hC.1.hv (8 * gt + kk) (by omega) h (by rw [hL]; exact List.mem_of_getElem? hh)
        refine lv_aload_n hx hb dX2_liveTokens_15 rfl (lv_at hl 0 rfl) ?_
        refine g_202 C hinX2 hW (hC.1.lay.ek (8 * gt + kk) (by omega)) (hC.1.lay.r202 (8 * gt + kk) (by omega)) l12 dX2_liveTokens_16 ?_
        refine lv_iload_n hx hb dX2_liveTokens_19 rfl (lv_at hl 3 rfl) ?_
        refine k_callVq (As := [.int (nI k)]) (rest := []) C hml (c_Jx4a65c_get_915e3 (q := cH c0 h) hA (by rw [List.length_map]; omega) (by rw [List.getElem?_map, hh]; rfl)) (cwV 1 hts gX2_liveTokens_Jx4a65c_get_915e3 rfl rfl rfl (by decide +kernel) ⟨by decide, by decide⟩) hW hS hB ((hC.2.hl (8 * gt + kk) (by omega)).1).1 (pAt_12 ((hC.2.hl (8 * gt + kk) (by omega)).1).2) rfl rfl hl.1 rfl (Nat.le_of_ble_eq_true rfl) dX2_liveTokens_20 ⟨Nat.le_of_ble_eq_true rfl, Nat.le_of_ble_eq_true rfl⟩ (fun r9 S2 H locs hp9 hW hS => ?_)
        obtain ⟨e8, e9⟩ := hp9
        rw [e8] at hW
        subst e9
        refine k_cast4 C hW hvh.1 hE.2.2.2.1 (show Cond.classLink RX2 55 "LeaseGates$Hold" ∈ wsX2_liveTokens by decide +kernel) dX2_liveTokens_23 ?_
        refine lv_astore (lv' := [(4, .ref (cH c0 h)), (0, .ref (y (100 + (8 * gt + kk)))), (1, .int x), (2, .int x2), (3, .int (nI k))]) hx hb dX2_liveTokens_26 hl (by decide) rfl (fun ls hl => ?_)
        refine lv_aload hx hb dX2_liveTokens_28 (lv_at hl 0 rfl) ?_
        refine lv_iload_n hx hb dX2_liveTokens_30 rfl (lv_at hl 2 rfl) ?_
        refine k_callVi (As := [.int x]) (rest := []) C hml (c_X4_isLive hvh.1) (cwV 1 hts gX2_liveTokens_X4_isLive rfl rfl rfl (by decide +kernel) ⟨by decide, by decide⟩) hW hS hB (hvh.1).1 (pAt_4 (hvh.1).2) rfl rfl hl.1 rfl (Nat.le_of_ble_eq_true rfl) dX2_liveTokens_31 ⟨Nat.le_of_ble_eq_true rfl, Nat.le_of_ble_eq_true rfl⟩ (fun r9 S3 H locs hp9 hW hS => ?_)
        obtain ⟨e8, e9⟩ := hp9
        rw [e8] at hW
        rw [hvh.2.2.1, hvh.2.2.2.1] at e9
        subst e9
        refine lv_if_eq (tgt := 45) hx hb dX2_liveTokens_34 (by decide) (fun c_34 => ?_) (fun c_34 => ?_)
        · have q_34 : ¬ (kLive g x h) := ite0.mp c_34
          refine lv_iinc (v := nI (k + 1)) (lv' := [(3, .int (nI (k + 1))), (4, .ref (cH c0 h)), (0, .ref (y (100 + (8 * gt + kk)))), (1, .int x), (2, .int x2)]) hx hb dX2_liveTokens_45 hl (k := 4) rfl (nI_add k 1) (by decide) rfl (fun ls hl => ?_)
          refine lv_goto (tgt := 4) hx hb dX2_liveTokens_48 (by decide) ?_
          exact ih (k + 1) _ _ _ ls (by omega) (by omega) (by rw [lSum_succ hh, if_neg q_34]; exact e2) hW hS (lv_sub hl [2, 3, 4, 0] rfl)
        · have q_34 : (kLive g x h) := ite1.mp c_34
          refine lv_iload_n hx hb dX2_liveTokens_37 rfl (lv_at hl 3 rfl) ?_
          refine lv_aload hx hb dX2_liveTokens_38 (lv_at hl 0 rfl) ?_
          refine g_403 C hinX4 hW hvh.1 l61 dX2_liveTokens_40 ?_
          refine top_i (show fI S 403 (cH c0 h) = g.1 28 h from hvh.2.2.2.2.1) ?_
          refine lv_iadd hx hb dX2_liveTokens_43 ?_
          refine lv_istore_n (lv' := [(2, .int (x2 + (g.1 28 h))), (4, .ref (cH c0 h)), (0, .ref (y (100 + (8 * gt + kk)))), (1, .int x), (3, .int (nI k))]) hx hb dX2_liveTokens_44 rfl hl (by decide) rfl (fun ls hl => ?_)
          refine lv_iinc (v := nI (k + 1)) (lv' := [(3, .int (nI (k + 1))), (2, .int (x2 + (g.1 28 h))), (4, .ref (cH c0 h)), (0, .ref (y (100 + (8 * gt + kk)))), (1, .int x)]) hx hb dX2_liveTokens_45 hl (k := 4) rfl (nI_add k 1) (by decide) rfl (fun ls hl => ?_)
          refine lv_goto (tgt := 4) hx hb dX2_liveTokens_48 (by decide) ?_
          exact ih (k + 1) _ _ _ ls (by omega) (by omega) (by rw [lSum_succ hh, if_pos q_34, e2]) hW hS (lv_sub hl [3, 4, 1, 0] rfl)
  exact lp (L.length - 0 + 1) 0 0 _ _ ls (by omega) (by omega) rfl hW hS (lv_sub hl [2, 3, 1, 0] rfl)
