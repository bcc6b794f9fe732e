set_option maxRecDepth 100000 in
set_option maxHeartbeats 1000000 in
theorem c_X1_loanThatEndsFirst {l : Launch} {D : va_G} {cy : Nat → ClassId} {B : Nat} {s0 : State} {S : PS} {y : Nat → Nat} {dE mi : Nat} {g : MS} {c0 : CS} {k : Nat} {L : List Nat} (hC : CR S y dE g c0) (hE : EnvC dE mi B s0) (hk8 : k < 8) (hL : cQl c0 k = L) : KI l yX1_loanThatEndsFirst wsX1_loanThatEndsFirst ({ frames := 3, cells := 0, slots := 0, locals := 64 }) D cy B s0 [.ref (y (40 + k))] S (fun r S2 => S2 = S ∧ r = eIx g L L.length) 0 0 := by
  refine k_body (own := RX1) (cc := cX1_loanThatEndsFirst) (maxL := 3) (ret := (some .int)) rfl (by decide) rfl (Nat.le_of_ble_eq_true rfl) ?_
  intro p e s m below meth c C hml hr hlk hnm hB hW ls hl
  obtain ⟨hx, hb, hts, hown, hK, hEn⟩ := id C
  have hS : va_S (Aw B) s.heap s.heap [] := va_S.rf
  have hinX1 : ∀ w ∈ wsX10, w ∈ wsX1_loanThatEndsFirst := by decide +kernel
  have hinX5 : ∀ w ∈ wsX50, w ∈ wsX1_loanThatEndsFirst := by decide +kernel
  have l12 : Cond.fieldLink RX1 12 "LeaseGates$Bucket" "loans" "Ljava/util/ArrayList;" ∈ wsX1_loanThatEndsFirst := by decide +kernel
  have l59 : Cond.fieldLink RX1 59 "LeaseGates$Loan" "end" "I" ∈ wsX1_loanThatEndsFirst := by decide +kernel
  have hl : lv_has ls 3 [(0, .ref (y (40 + k)))] := hl
  have hF : CF S S y := CF.rf
  have hl4 : L.length ≤ 400 := by rw [← hL]; have z := (hC.2.bl k hk8).2.2.2.1; rw [List.length_map] at z; exact z
  have hA : AL S dE (y (50 + k)) (cA c0 (48 + k)) (L.map (cL c0)) := by rw [← hL]; exact hC.2.bl k hk8
  refine lv_iconst (v := (-1)) hx hb dX1_loanThatEndsFirst_0 (by decide) ?_
  refine lv_istore_n (lv' := [(1, .int (-1)), (0, .ref (y (40 + k)))]) hx hb dX1_loanThatEndsFirst_1 rfl hl (by decide) rfl (fun ls hl => ?_)
  refine lv_iconst (v := 0) hx hb dX1_loanThatEndsFirst_2 (by decide) ?_
  refine lv_istore_n (lv' := [(2, .int 0), (1, .int (-1)), (0, .ref (y (40 + k)))]) hx hb dX1_loanThatEndsFirst_3 rfl hl (by decide) rfl (fun ls hl => ?_)
  have lp : ∀ (d i : Nat) (x1 : Int32) (H : Heap) (locs : List Loc) (ls : Array Slot), i ≤ L.length → L.length - i < d → x1 = eIx g L i → PW D cy B S H → va_S (Aw B) s.heap H locs → lv_has ls 3 [(0, .ref (y (40 + k))), (1, .int x1), (2, .int (nI i))] → W p l e ({ frames := 3, cells := 0, slots := 0, locals := 64 }) s m [.ref (y (40 + k))].toArray below meth c H locs 0 0 (MQ below (va_Qi (fun r S2 => S2 = S ∧ r = eIx g L L.length) (PreW D cy B s0) (Aw B)) [.ref (y (40 + k))].toArray s 0 0 (Aw B)) (F0 m 4 ls []) := by
    intro d
    induction d with
    | zero => intro i x1 H locs ls _ hd; exact absurd hd (Nat.not_lt_zero _)
    | succ d ih =>
      intro i x1 H locs ls hk hd e2 hW hS hl
      refine lv_iload_n hx hb dX1_loanThatEndsFirst_4 rfl (lv_at hl 2 rfl) ?_
      refine lv_aload_n hx hb dX1_loanThatEndsFirst_5 rfl (lv_at hl 0 rfl) ?_
      refine g_100 C hinX1 hW (hC.1.lay.bk k (by omega)) (hC.1.lay.r100 k (by omega)) l12 dX1_loanThatEndsFirst_6 ?_
      refine k_callVi (As := []) (rest := [.int (nI i)]) C hml (c_Jx4a65c_size_8abf5 hA.1) (cwV 0 hts gX1_loanThatEndsFirst_Jx4a65c_size_8abf5 rfl rfl rfl (by decide +kernel) ⟨by decide, by decide⟩) hW hS hB ((hC.2.bl k (by omega)).1).1 (pAt_12 ((hC.2.bl k (by omega)).1).2) rfl rfl hl.1 rfl (Nat.le_of_ble_eq_true rfl) dX1_loanThatEndsFirst_9 ⟨Nat.le_of_ble_eq_true rfl, Nat.le_of_ble_eq_true rfl⟩ (fun r9 S1 H locs hp9 hW hS => ?_)
      obtain ⟨e8, e9⟩ := hp9
      rw [e8] at hW
      replace e9 := e9.trans (hA.2.2.1.trans (congrArg nI (List.length_map _)))
      subst e9
      refine lv_icmp_ge (tgt := 59) hx hb dX1_loanThatEndsFirst_12 (by decide) (fun c_12 => ?_) (fun c_12 => ?_)
      · have q_12 : L.length ≤ i := (nI_leI (a := L.length) (b := i) (by omega) (by omega)).mp c_12
        refine lv_iload_n hx hb dX1_loanThatEndsFirst_59 rfl (lv_at hl 1 rfl) ?_
        exact k_iret C hr hlk hW hS hB ⟨rfl, by rw [e2, show i = L.length by omega]⟩ (Nat.le_refl _) (Nat.le_refl _) dX1_loanThatEndsFirst_60
      · have q_12 : ¬ (L.length ≤ i) := fun z => c_12 ((nI_leI (a := L.length) (b := i) (by omega) (by omega)).mpr z)
        refine lv_iload_n hx hb dX1_loanThatEndsFirst_15 rfl (lv_at hl 1 rfl) ?_
        refine lv_iconst (v := (-1)) hx hb dX1_loanThatEndsFirst_16 (by decide) ?_
        refine lv_icmp_eq (tgt := 51) hx hb dX1_loanThatEndsFirst_17 (by decide) (fun c_17 => ?_) (fun c_17 => ?_)
        · refine lv_iload_n hx hb dX1_loanThatEndsFirst_51 rfl (lv_at hl 2 rfl) ?_
          refine lv_istore_n (lv' := [(1, .int (nI i)), (0, .ref (y (40 + k))), (2, .int (nI i))]) hx hb dX1_loanThatEndsFirst_52 rfl hl (by decide) rfl (fun ls hl => ?_)
          refine lv_iinc (v := nI (i + 1)) (lv' := [(2, .int (nI (i + 1))), (1, .int (nI i)), (0, .ref (y (40 + k)))]) hx hb dX1_loanThatEndsFirst_53 hl (k := 2) rfl (nI_add i 1) (by decide) rfl (fun ls hl => ?_)
          refine lv_goto (tgt := 4) hx hb dX1_loanThatEndsFirst_56 (by decide) ?_
          exact ih (i + 1) _ _ _ ls (by omega) (by omega) (eIx_y1 (e2.symm.trans c_17)).symm hW hS (lv_sub hl [2, 1, 0] rfl)
        · obtain ⟨j, hj, ej⟩ : ∃ j, j < i ∧ eIx g L i = nI j := (eIx_in g L i).resolve_left (fun z => c_17 (e2.trans z.2))
          obtain rfl : x1 = nI j := e2.trans ej
          obtain ⟨h, hh⟩ : ∃ x9, L[i]? = some x9 := ⟨_, List.getElem?_eq_getElem (by omega)⟩
          have hvh := hC.1.bv k hk8 h (by rw [hL]; exact List.mem_of_getElem? hh)
          obtain ⟨h1, hh1⟩ : ∃ x9, L[j]? = some x9 := ⟨_, List.getElem?_eq_getElem (by omega)⟩
          have hvh1 := hC.1.bv k hk8 h1 (by rw [hL]; exact List.mem_of_getElem? hh1)
          refine lv_aload_n hx hb dX1_loanThatEndsFirst_20 rfl (lv_at hl 0 rfl) ?_
          refine g_100 C hinX1 hW (hC.1.lay.bk k (by omega)) (hC.1.lay.r100 k (by omega)) l12 dX1_loanThatEndsFirst_21 ?_
          refine lv_iload_n hx hb dX1_loanThatEndsFirst_24 rfl (lv_at hl 2 rfl) ?_
          refine k_callVq (As := [.int (nI i)]) (rest := []) C hml (c_Jx4a65c_get_915e3 (q := cL c0 h) hA (by rw [List.length_map]; omega) (by rw [List.getElem?_map, hh]; rfl)) (cwV 1 hts gX1_loanThatEndsFirst_Jx4a65c_get_915e3 rfl rfl rfl (by decide +kernel) ⟨by decide, by decide⟩) hW hS hB ((hC.2.bl k (by omega)).1).1 (pAt_12 ((hC.2.bl k (by omega)).1).2) rfl rfl hl.1 rfl (Nat.le_of_ble_eq_true rfl) dX1_loanThatEndsFirst_25 ⟨Nat.le_of_ble_eq_true rfl, Nat.le_of_ble_eq_true rfl⟩ (fun r9 S2 H locs hp9 hW hS => ?_)
          obtain ⟨e8, e9⟩ := hp9
          rw [e8] at hW
          subst e9
          refine k_cast5 C hW hvh.1 hE.2.2.2.2.1 (show Cond.classLink RX1 57 "LeaseGates$Loan" ∈ wsX1_loanThatEndsFirst by decide +kernel) dX1_loanThatEndsFirst_28 ?_
          refine g_502 C hinX5 hW hvh.1 l59 dX1_loanThatEndsFirst_31 ?_
          refine top_i (show fI S 502 (cL c0 h) = g.1 10 h from hvh.2.2.2.1) ?_
          refine lv_aload_n hx hb dX1_loanThatEndsFirst_34 rfl (lv_at hl 0 rfl) ?_
          refine g_100 C hinX1 hW (hC.1.lay.bk k (by omega)) (hC.1.lay.r100 k (by omega)) l12 dX1_loanThatEndsFirst_35 ?_
          refine lv_iload_n hx hb dX1_loanThatEndsFirst_38 rfl (lv_at hl 1 rfl) ?_
          refine k_callVq (As := [.int (nI j)]) (rest := [.int (g.1 10 h)]) C hml (c_Jx4a65c_get_915e3 (q := cL c0 h1) hA (by rw [List.length_map]; omega) (by rw [List.getElem?_map, hh1]; rfl)) (cwV 1 hts gX1_loanThatEndsFirst_Jx4a65c_get_915e3 rfl rfl rfl (by decide +kernel) ⟨by decide, by decide⟩) hW hS hB ((hC.2.bl k (by omega)).1).1 (pAt_12 ((hC.2.bl k (by omega)).1).2) rfl rfl hl.1 rfl (Nat.le_of_ble_eq_true rfl) dX1_loanThatEndsFirst_39 ⟨Nat.le_of_ble_eq_true rfl, Nat.le_of_ble_eq_true rfl⟩ (fun r9 S3 H locs hp9 hW hS => ?_)
          obtain ⟨e8, e9⟩ := hp9
          rw [e8] at hW
          subst e9
          refine k_cast5 C hW hvh1.1 hE.2.2.2.2.1 (show Cond.classLink RX1 57 "LeaseGates$Loan" ∈ wsX1_loanThatEndsFirst by decide +kernel) dX1_loanThatEndsFirst_42 ?_
          refine g_502 C hinX5 hW hvh1.1 l59 dX1_loanThatEndsFirst_45 ?_
          refine top_i (show fI S 502 (cL c0 h1) = g.1 10 h1 from hvh1.2.2.2.1) ?_
          refine lv_icmp_ge (tgt := 53) hx hb dX1_loanThatEndsFirst_48 (by decide) (fun c_48 => ?_) (fun c_48 => ?_)
          · refine lv_iinc (v := nI (i + 1)) (lv' := [(2, .int (nI (i + 1))), (0, .ref (y (40 + k))), (1, .int (nI j))]) hx hb dX1_loanThatEndsFirst_53 hl (k := 2) rfl (nI_add i 1) (by decide) rfl (fun ls hl => ?_)
            refine lv_goto (tgt := 4) hx hb dX1_loanThatEndsFirst_56 (by decide) ?_
            exact ih (i + 1) _ _ _ ls (by omega) (by omega) (eIx_n2 hh ej (by omega) c_17 hh1 (Int32.not_lt.mpr c_48)).symm hW hS (lv_sub hl [1, 2, 0] rfl)
          · refine lv_iload_n hx hb dX1_loanThatEndsFirst_51 rfl (lv_at hl 2 rfl) ?_
            refine lv_istore_n (lv' := [(1, .int (nI i)), (0, .ref (y (40 + k))), (2, .int (nI i))]) hx hb dX1_loanThatEndsFirst_52 rfl hl (by decide) rfl (fun ls hl => ?_)
            refine lv_iinc (v := nI (i + 1)) (lv' := [(2, .int (nI (i + 1))), (1, .int (nI i)), (0, .ref (y (40 + k)))]) hx hb dX1_loanThatEndsFirst_53 hl (k := 2) rfl (nI_add i 1) (by decide) rfl (fun ls hl => ?_)
            refine lv_goto (tgt := 4) hx hb dX1_loanThatEndsFirst_56 (by decide) ?_
            exact ih (i + 1) _ _ _ ls (by omega) (by omega) (eIx_y2 hh ej (by omega) hh1 (Int32.not_le.mp c_48)).symm hW hS (lv_sub hl [2, 1, 0] rfl)
  exact lp (L.length - 0 + 1) 0 (-1) _ _ ls (by omega) (by omega) rfl hW hS (lv_sub hl [2, 1, 0] rfl)
set_option maxRecDepth 100000 in
set_option maxHeartbeats 1000000 in
theorem c_X1_close {l : Launch} {D : va_G} {cy : Nat → ClassId} {B : Nat} {s0 : State} {S : PS} {y : Nat → Nat} {dE mi : Nat} {g : MS} {c0 : CS} {k j h : Nat} {L : List Nat} (hC : CR S y dE g c0) (hE : EnvC dE mi B s0) (hk8 : k < 8) (hL : cQl c0 k = L) (hh : L[j]? = some h) : KV l yX1_close wsX1_close ({ frames := 3, cells := 0, slots := 0, locals := 106 }) D cy B s0 [.ref (y (40 + k)), .int (nI j)] S (fun S2 => ∃ c2, CF S S2 y ∧ CR S2 y dE g c2 ∧ cQl c2 = va_up (cQl c0) k (L.eraseIdx j) ∧ cE c2 = va_up (cE c0) k (cE c0 k - g.1 9 h) ∧ cP c2 = cP c0) 0 0 := by
  refine k_body (own := RX1) (cc := cX1_close) (maxL := 2) (ret := none) rfl (by decide) rfl (Nat.le_of_ble_eq_true rfl) ?_
  intro p e s m below meth c C hml hr hlk hnm hB hW ls hl
  obtain ⟨hx, hb, hts, hown, hK, hEn⟩ := id C
  have hS : va_S (Aw B) s.heap s.heap [] := va_S.rf
  have hinX1 : ∀ w ∈ wsX10, w ∈ wsX1_close := by decide +kernel
  have hinX5 : ∀ w ∈ wsX50, w ∈ wsX1_close := by decide +kernel
  have l12 : Cond.fieldLink RX1 12 "LeaseGates$Bucket" "loans" "Ljava/util/ArrayList;" ∈ wsX1_close := by decide +kernel
  have l31 : Cond.fieldLink RX1 31 "LeaseGates$Bucket" "lent" "I" ∈ wsX1_close := by decide +kernel
  have l66 : Cond.fieldLink RX1 66 "LeaseGates$Loan" "tokens" "I" ∈ wsX1_close := by decide +kernel
  have hl : lv_has ls 2 [(0, .ref (y (40 + k))), (1, .int (nI j))] := hl
  have hF : CF S S y := CF.rf
  have hl4 : L.length ≤ 400 := by rw [← hL]; have z := (hC.2.bl k hk8).2.2.2.1; rw [List.length_map] at z; exact z
  have hA : AL S dE (y (50 + k)) (cA c0 (48 + k)) (L.map (cL c0)) := by rw [← hL]; exact hC.2.bl k hk8
  have hjl : j < L.length := (List.getElem?_eq_some_iff.mp hh).1
  have hvh := hC.1.bv k hk8 h (by rw [hL]; exact List.mem_of_getElem? hh)
  refine lv_aload_n hx hb dX1_close_0 rfl (lv_at hl 0 rfl) ?_
  refine lv_dup hx hb dX1_close_1 rfl ?_
  refine g_104 C hinX1 hW (hC.1.lay.bk k (by omega)) l31 dX1_close_2 ?_
  refine top_i (show fI S 104 (y (40 + k)) = cE c0 k from hC.1.b4 k (by omega)) ?_
  refine lv_aload_n hx hb dX1_close_5 rfl (lv_at hl 0 rfl) ?_
  refine g_100 C hinX1 hW (hC.1.lay.bk k (by omega)) (hC.1.lay.r100 k (by omega)) l12 dX1_close_6 ?_
  refine lv_iload_n hx hb dX1_close_9 rfl (lv_at hl 1 rfl) ?_
  refine k_callVq (As := [.int (nI j)]) (rest := [.int (cE c0 k), .ref (y (40 + k))]) C hml (c_Jx4a65c_get_915e3 (q := cL c0 h) hA (by rw [List.length_map]; omega) (by rw [List.getElem?_map, hh]; rfl)) (cwV 1 hts gX1_close_Jx4a65c_get_915e3 rfl rfl rfl (by decide +kernel) ⟨by decide, by decide⟩) hW hS hB ((hC.2.bl k (by omega)).1).1 (pAt_12 ((hC.2.bl k (by omega)).1).2) rfl rfl hl.1 rfl (Nat.le_of_ble_eq_true rfl) dX1_close_10 ⟨Nat.le_of_ble_eq_true rfl, Nat.le_of_ble_eq_true rfl⟩ (fun r9 S1 H locs hp9 hW hS => ?_)
  obtain ⟨e8, e9⟩ := hp9
  rw [e8] at hW
  subst e9
  refine k_cast5 C hW hvh.1 hE.2.2.2.2.1 (show Cond.classLink RX1 57 "LeaseGates$Loan" ∈ wsX1_close by decide +kernel) dX1_close_13 ?_
  refine g_501 C hinX5 hW hvh.1 l66 dX1_close_16 ?_
  refine top_i (show fI S 501 (cL c0 h) = g.1 9 h from hvh.2.2.1) ?_
  refine lv_isub hx hb dX1_close_19 ?_
  refine p_104 C hinX1 hW hS (hC.1.lay.bk k (by omega)) l31 dX1_close_20 (fun S2 H locs e1 hW hS => ?_)
  have hF9 : CF S S2 y := by rw [e1]; exact hF.sI (hC.1.lay.bk k (by omega)) (by decide)
  have hC9 : CR S2 y dE g (csE c0 k ((cE c0 k) - (g.1 9 h))) := by rw [e1]; exact hC.wb4
  replace hA : AL S2 dE (y (50 + k)) (cA c0 (48 + k)) (L.map (cL c0)) := by rw [e1]; exact hA
  clear hC hF e1
  have hF := hF9
  have hC := hC9
  clear hC9 hF9
  refine lv_aload_n hx hb dX1_close_23 rfl (lv_at hl 0 rfl) ?_
  refine g_100 C hinX1 hW (hC.1.lay.bk k (by omega)) (hC.1.lay.r100 k (by omega)) l12 dX1_close_24 ?_
  refine lv_iload_n hx hb dX1_close_27 rfl (lv_at hl 1 rfl) ?_
  refine k_callVq (As := [.int (nI j)]) (rest := []) C hml (c_Jx4a65c_remove_915e3_L (q := cL c0 h) hA (by rw [List.length_map]; omega) (by rw [List.getElem?_map, hh]; rfl) (hA.el (fun z hz => (hC.1.bv k hk8 z (by rw [show cQl (csE c0 k (cE c0 k - g.1 9 h)) k = L from hL]; exact hz)).1)) hE.2.2.1) (cwV 1 hts gX1_close_Jx4a65c_remove_915e3 rfl rfl rfl (by decide +kernel) ⟨by decide, by decide⟩) hW hS hB ((hC.2.bl k (by omega)).1).1 (pAt_12 ((hC.2.bl k (by omega)).1).2) rfl rfl hl.1 rfl (Nat.le_of_ble_eq_true rfl) dX1_close_28 ⟨Nat.le_of_ble_eq_true rfl, Nat.le_of_ble_eq_true rfl⟩ (fun r9 S3 H locs hp9 hW hS => ?_)
  obtain ⟨⟨o9, a9⟩, e9⟩ := hp9
  subst e9
  have hfr : Fr S2 S3 (fun b => b = y (50 + k) ∨ b = cA c0 (48 + k)) := o9.fr (Or.inl rfl) (Or.inl (Or.inr rfl))
  have hF9 : CF S S3 y := hF.tr (CF.lk hfr (LK_list hC.2 (i := 48 + k) (by omega) hA.1))
  rw [← map_erase] at a9
  have hC9 : CR S3 y dE g (csQ (csE c0 k ((cE c0 k) - (g.1 9 h))) k (cA c0 (48 + k)) (L.eraseIdx j)) := hC.blist hk8 hfr a9 (Or.inl rfl) (hW.nd hE.1.2.2) (fun x hx => by rw [show cQl (csE c0 k ((cE c0 k) - (g.1 9 h))) k = L from hL]; exact mem_erase hx)
  clear hC hF
  have hC := hC9
  have hF := hF9
  refine lv_pop hx hb dX1_close_31 rfl ?_
  exact k_vret C hr hlk hW hS hB ⟨_, hF, hC, rfl, rfl, rfl⟩ (Nat.le_refl _) (Nat.le_refl _) dX1_close_32
theorem fill_pos {g : MS} {n k : Nat} {dt : Int32} (h : BInv g n) (hk8 : k < 8) (h1 : 0 ≤ dt.toInt) : 0 ≤ (g.2.1 5 k + (g.1 3 k).toInt64 * dt.toInt64).toInt := by
  obtain ⟨a, -, b⟩ := h.1 k hk8
  have d := Int32.toInt_lt dt
  have e : ((g.1 3 k).toInt64 * dt.toInt64).toInt = (g.1 3 k).toInt * dt.toInt := by
    have hu : (g.1 3 k).toInt * dt.toInt ≤ 100000 * 2147483648 := Int.mul_le_mul a.2 (by omega) h1 (by omega)
    have hl : 0 ≤ (g.1 3 k).toInt * dt.toInt := Int.mul_nonneg a.1 h1
    rw [i64_mul (by rw [Int32.toInt_toInt64, Int32.toInt_toInt64]; omega) (by rw [Int32.toInt_toInt64, Int32.toInt_toInt64]; omega), Int32.toInt_toInt64, Int32.toInt_toInt64]
  have hu : (g.1 3 k).toInt * dt.toInt ≤ 100000 * 2147483648 := Int.mul_le_mul a.2 (by omega) h1 (by omega)
  have hl : 0 ≤ (g.1 3 k).toInt * dt.toInt := Int.mul_nonneg a.1 h1
  rw [i64_add (by rw [e]; omega) (by rw [e]; omega), e]
  omega
set_option maxRecDepth 100000 in
set_option maxHeartbeats 1000000 in
theorem c_X1_reshape {l : Launch} {D : va_G} {cy : Nat → ClassId} {B : Nat} {s0 : State} {S : PS} {y : Nat → Nat} {dE mi : Nat} {g : MS} {c0 : CS} {k n : Nat} {x1 x2 : Int32} (hC : CR S y dE g c0) (hE : EnvC dE mi B s0) (hk8 : k < 8) (hn3 : n ≤ 300) (hCB : CanB c0 g n) (hI : BInv g n) (h1 : 0 ≤ x1.toInt ∧ x1.toInt ≤ 100000) (h2 : 0 ≤ x2.toInt ∧ x2.toInt ≤ 1000000) : KV l yX1_reshape wsX1_reshape ({ frames := 2, cells := 0, slots := 0, locals := 54 }) D cy B s0 [.ref (y (40 + k)), .int x1, .int x2] S (fun S2 => CF S S2 y ∧ CR S2 y dE (mKeyOk g n k x1 x2) c0) 0 0 := by
  refine k_body (own := RX1) (cc := cX1_reshape) (maxL := 3) (ret := none) rfl (by decide) rfl (Nat.le_of_ble_eq_true rfl) ?_
  intro p e s m below meth c C hml hr hlk hnm hB hW ls hl
  obtain ⟨hx, hb, hts, hown, hK, hEn⟩ := id C
  have hS : va_S (Aw B) s.heap s.heap [] := va_S.rf
  have hinX1 : ∀ w ∈ wsX10, w ∈ wsX1_reshape := by decide +kernel
  have l18 : Cond.fieldLink RX1 18 "LeaseGates$Bucket" "rate" "I" ∈ wsX1_reshape := by decide +kernel
  have l22 : Cond.fieldLink RX1 22 "LeaseGates$Bucket" "burst" "I" ∈ wsX1_reshape := by decide +kernel
  have hl : lv_has ls 3 [(0, .ref (y (40 + k))), (1, .int x1), (2, .int x2)] := hl
  have hF : CF S S y := CF.rf
  refine lv_aload_n hx hb dX1_reshape_0 rfl (lv_at hl 0 rfl) ?_
  refine lv_iload_n hx hb dX1_reshape_1 rfl (lv_at hl 1 rfl) ?_
  refine p_101 C hinX1 hW hS (hC.1.lay.bk k (by omega)) l18 dX1_reshape_2 (fun S1 H locs e1 hW hS => ?_)
  have hF9 : CF S S1 y := by rw [e1]; exact hF.sI (hC.1.lay.bk k (by omega)) (by decide)
  have hC9 : CR S1 y dE (iI g 3 k x1) c0 := by rw [e1]; exact hC.wb1
  clear hC hF e1
  have hF := hF9
  have hC := hC9
  clear hC9 hF9
  refine lv_aload_n hx hb dX1_reshape_5 rfl (lv_at hl 0 rfl) ?_
  refine lv_iload_n hx hb dX1_reshape_6 rfl (lv_at hl 2 rfl) ?_
  refine p_102 C hinX1 hW hS (hC.1.lay.bk k (by omega)) l22 dX1_reshape_7 (fun S2 H locs e1 hW hS => ?_)
  have hF9 : CF S S2 y := by rw [e1]; exact hF.sI (hC.1.lay.bk k (by omega)) (by decide)
  have hC9 : CR S2 y dE (iI (iI g 3 k x1) 4 k x2) c0 := by rw [e1]; exact hC.wb2
  clear hC hF e1
  have hF := hF9
  have hC := hC9
  clear hC9 hF9
  replace hI : BInv (iI (iI g 3 k x1) 4 k x2) n := ⟨fun i hi => by
    by_cases e9 : i = k
    · subst e9; exact ⟨by rw [show (iI (iI g 3 i x1) 4 i x2).1 3 i = x1 from iI_s (g := g) (j := 3)]; exact h1, by rw [show (iI (iI g 3 i x1) 4 i x2).1 4 i = x2 from iI_s]; exact h2, (hI.1 i hi).2.2⟩
    · exact ⟨by rw [show (iI (iI g 3 k x1) 4 k x2).1 3 i = g.1 3 i from iI_o (g := g) (j := 3) (v := x1) e9]; exact (hI.1 i hi).1, by rw [show (iI (iI g 3 k x1) 4 k x2).1 4 i = g.1 4 i from iI_o e9]; exact (hI.1 i hi).2.1, (hI.1 i hi).2.2⟩, hI.2⟩
  replace hCB : CanB c0 (iI (iI g 3 k x1) 4 k x2) n := hCB
  refine lv_aload_n hx hb dX1_reshape_10 rfl (lv_at hl 0 rfl) ?_
  refine lv_lconst (v := 0) hx hb dX1_reshape_11 (by decide) ?_
  refine k_callVv (As := [.long 0]) (rest := []) C hml (c_X1_fill (hC.1.lay.bk k hk8)) (cwV 1 hts gX1_reshape_X1_fill rfl rfl rfl (by decide +kernel) ⟨by decide, by decide⟩) hW hS hB ((hC.1.lay.bk k (by omega))).1 (pAt_1 ((hC.1.lay.bk k (by omega))).2) rfl rfl hl.1 rfl (Nat.le_of_ble_eq_true rfl) dX1_reshape_12 ⟨Nat.le_of_ble_eq_true rfl, Nat.le_of_ble_eq_true rfl⟩ (fun S3 H locs hp9 hW hS => ?_)
  have hF9 : CF S S3 y := by rw [hp9]; exact hF.sI (hC.1.lay.bk k hk8) (by decide)
  have hC9 : CR S3 y dE (kFill (iI (iI g 3 k x1) 4 k x2) n k 0) (c0) := by rw [hp9]; exact hC.fill hk8 hCB hI (by rw [Int64.add_zero]; exact (hI.1 k hk8).2.2.1)
  clear hC hF
  have hC := hC9
  have hF := hF9
  replace hI : BInv (kFill (iI (iI g 3 k x1) 4 k x2) n k 0) n := hI.fill hn3 hk8
  replace hCB : CanB (c0) (kFill (iI (iI g 3 k x1) 4 k x2) n k 0) n := hCB
  exact k_vret C hr hlk hW hS hB ⟨hF, by rw [mKeyOk, show g.2.1 5 k = g.2.1 5 k + 0 from (Int64.add_zero _).symm]; exact hC⟩ (Nat.le_refl _) (Nat.le_refl _) dX1_reshape_15
def kLend (g : MS) (n k : Nat) (tok en : Int32) : MS := iI (iI (iI (iL g 5 k (g.2.1 5 k - 1000 * tok.toInt64)) 8 n (nI k)) 9 n tok) 10 n en
theorem CanB.add {c c2 : CS} {g : MS} {n k : Nat} {tok en : Int32} (H : CanB c g n) (hk8 : k < 8) (hn : n < 300) (ht : ¬ tok = 0) (e1 : cQl c2 = va_up (cQl c) k (cQl c k ++ [n])) (e2 : cE c2 = va_up (cE c) k (cE c k + tok)) : CanB c2 (kLend g n k tok en) (n + 1) := by
  have h8 : ∀ x, (kLend g n k tok en).1 8 x = if x = n then nI k else g.1 8 x := fun x => by
    show (iI (iL g 5 k (g.2.1 5 k - 1000 * tok.toInt64)) 8 n (nI k)).1 8 x = _
    by_cases e : x = n
    · rw [if_pos e, e]; exact iI_s
    · rw [if_neg e]; exact iI_o e
  have h9 : ∀ x, (kLend g n k tok en).1 9 x = if x = n then tok else g.1 9 x := fun x => by
    show (iI (iI (iL g 5 k (g.2.1 5 k - 1000 * tok.toInt64)) 8 n (nI k)) 9 n tok).1 9 x = _
    rw [iI9]; rfl
  have hm : ∀ i, mLt (kLend g n k tok en) i n = mLt g i n := fun i => by
    have : ∀ m, m ≤ n → mLent ((kLend g n k tok en).1 8) ((kLend g n k tok en).1 9) (nI i) m = mLent (g.1 8) (g.1 9) (nI i) m := by
      intro m
      induction m with
      | zero => intro _; rfl
      | succ m ih => intro hm; rw [mLent, mLent, ih (by omega), h8, h9, if_neg (show ¬ m = n by omega), if_neg (show ¬ m = n by omega)]
    exact this n (Nat.le_refl _)
  intro i hi
  have hf : fil (lsP (kLend g n k tok en) i) n = lsB g i n := fil_congr (fun x hx => by unfold lsP; rw [h8, h9, if_neg (show ¬ x = n by omega), if_neg (show ¬ x = n by omega)])
  refine ⟨?_, ?_⟩
  · unfold lsB
    rw [fil_succ, hf, e1]
    by_cases e : i = k
    · subst e
      rw [if_pos (by unfold lsP; rw [h8, h9, if_pos rfl, if_pos rfl]; exact ⟨rfl, ht⟩), up_same, (H i hi).1]
    · rw [if_neg (by unfold lsP; rw [h8, if_pos rfl]; exact fun q => nI_ne (by omega) (by omega) e q.1.symm), va_up_ne _ _ e, (H i hi).1]
  · show cE c2 i = mLent ((kLend g n k tok en).1 8) ((kLend g n k tok en).1 9) (nI i) (n + 1)
    rw [mLent, h8, h9, if_pos rfl, if_pos rfl, e2]
    have := hm i
    by_cases e : i = k
    · subst e
      rw [if_pos rfl, up_same, (H i hi).2]
      exact congrArg (· + tok) this.symm
    · rw [if_neg (fun q => nI_ne (by omega) (by omega) e q.symm), va_up_ne _ _ e, (H i hi).2]
      exact this.symm
set_option maxRecDepth 100000 in
set_option maxHeartbeats 1000000 in
theorem c_X1_lend {l : Launch} {D : va_G} {cy : Nat → ClassId} {B : Nat} {s0 : State} {S : PS} {y : Nat → Nat} {dE mi : Nat} {g : MS} {c0 : CS} {k n : Nat} {x2 x3 : Int32} (hC : CR S y dE g c0) (hE : EnvC dE mi B s0) (hk8 : k < 8) (hn : n < 300) (hCB : CanB c0 g n) (ht : ¬ x2 = 0) : KV l yX1_lend wsX1_lend ({ frames := 7, cells := 2, slots := 1103, locals := 191 }) D cy B s0 [.ref (y (40 + k)), .int (nI n), .int x2, .int x3] S (fun S2 => ∃ c2, CF S S2 y ∧ CR S2 y dE (kLend g n k x2 x3) c2 ∧ CanB c2 (kLend g n k x2 x3) (n + 1) ∧ cP c2 = cP c0) 2 1103 := by
  refine k_body (own := RX1) (cc := cX1_lend) (maxL := 4) (ret := none) rfl (by decide) rfl (Nat.le_of_ble_eq_true rfl) ?_
  intro p e s m below meth c C hml hr hlk hnm hB hW ls hl
  obtain ⟨hx, hb, hts, hown, hK, hEn⟩ := id C
  have hS : va_S (Aw B) s.heap s.heap [] := va_S.rf
  have hinX1 : ∀ w ∈ wsX10, w ∈ wsX1_lend := by decide +kernel
  have hinX5 : ∀ w ∈ wsX50, w ∈ wsX1_lend := by decide +kernel
  have l12 : Cond.fieldLink RX1 12 "LeaseGates$Bucket" "loans" "Ljava/util/ArrayList;" ∈ wsX1_lend := by decide +kernel
  have l31 : Cond.fieldLink RX1 31 "LeaseGates$Bucket" "lent" "I" ∈ wsX1_lend := by decide +kernel
  have l40 : Cond.fieldLink RX1 40 "LeaseGates$Bucket" "level" "I" ∈ wsX1_lend := by decide +kernel
  have hl : lv_has ls 4 [(0, .ref (y (40 + k))), (1, .int (nI n)), (2, .int x2), (3, .int x3)] := hl
  have hF : CF S S y := CF.rf
  refine lv_aload_n hx hb dX1_lend_0 rfl (lv_at hl 0 rfl) ?_
  refine lv_dup hx hb dX1_lend_1 rfl ?_
  refine g_103 C hinX1 hW (hC.1.lay.bk k (by omega)) l40 dX1_lend_2 ?_
  refine top_i (show fI S 103 (y (40 + k)) = (g.2.1 5 k).toInt32 from hC.1.b3 k (by omega)) ?_
  refine lv_sipush (v := 1000) hx hb dX1_lend_5 (by decide) ?_
  refine lv_iload_n hx hb dX1_lend_8 rfl (lv_at hl 2 rfl) ?_
  refine lv_imul hx hb dX1_lend_9 ?_
  refine lv_isub hx hb dX1_lend_10 ?_
  refine p_103 C hinX1 hW hS (hC.1.lay.bk k (by omega)) l40 dX1_lend_11 (fun S1 H locs e1 hW hS => ?_)
  have hF9 : CF S S1 y := by rw [e1]; exact hF.sI (hC.1.lay.bk k (by omega)) (by decide)
  have hC9 : CR S1 y dE (iL g 5 k (g.2.1 5 k - 1000 * x2.toInt64)) c0 := by rw [e1]; exact hC.wb3 (by rw [Int64.toInt32_sub, Int64.toInt32_mul, Int32.toInt32_toInt64]; rfl)
  clear hC hF e1
  have hF := hF9
  have hC := hC9
  clear hC9 hF9
  refine lv_aload_n hx hb dX1_lend_14 rfl (lv_at hl 0 rfl) ?_
  refine lv_dup hx hb dX1_lend_15 rfl ?_
  refine g_104 C hinX1 hW (hC.1.lay.bk k (by omega)) l31 dX1_lend_16 ?_
  refine top_i (show fI S1 104 (y (40 + k)) = cE c0 k from hC.1.b4 k (by omega)) ?_
  refine lv_iload_n hx hb dX1_lend_19 rfl (lv_at hl 2 rfl) ?_
  refine lv_iadd hx hb dX1_lend_20 ?_
  refine p_104 C hinX1 hW hS (hC.1.lay.bk k (by omega)) l31 dX1_lend_21 (fun S2 H locs e1 hW hS => ?_)
  have hF9 : CF S S2 y := by rw [e1]; exact hF.sI (hC.1.lay.bk k (by omega)) (by decide)
  have hC9 : CR S2 y dE (iL g 5 k (g.2.1 5 k - 1000 * x2.toInt64)) (csE c0 k ((cE c0 k) + x2)) := by rw [e1]; exact hC.wb4
  clear hC hF e1
  have hF := hF9
  have hC := hC9
  clear hC9 hF9
  refine lv_aload_n hx hb dX1_lend_24 rfl (lv_at hl 0 rfl) ?_
  refine g_100 C hinX1 hW (hC.1.lay.bk k (by omega)) (hC.1.lay.r100 k (by omega)) l12 dX1_lend_25 ?_
  refine n_5 C hinX5 hW hS hB (show Cond.classLink RX1 57 RX5 ∈ wsX1_lend by decide +kernel) (show Cond.instantiable RX5 3 ∈ wsX1_lend by decide +kernel) (show Cond.initialized RX5 ∈ wsX1_lend by decide +kernel) (Nat.le_of_ble_eq_true rfl) (Nat.le_of_ble_eq_true rfl) dX1_lend_28 (fun q S3 H e1 qn hW hS => ?_)
  have hC0 := hC
  have hF0 := hF
  replace hC : CR S3 y dE (iL g 5 k (g.2.1 5 k - 1000 * x2.toInt64)) (csE c0 k ((cE c0 k) + x2)) := hC.fr0 (by rw [e1]; exact Fr.rf.nO qn) (hW.nd hE.1.2.2)
  replace hF : CF S S3 y := by rw [e1]; exact hF.nO qn
  have hq : IsAt S3 5 q := by rw [e1]; exact nO_is
  have hnew : Fr S2 S3 (fun _ => False) := by rw [e1]; exact Fr.rf.nO qn
  clear e1
  refine lv_dup hx hb dX1_lend_31 rfl ?_
  refine lv_iload_n hx hb dX1_lend_32 rfl (lv_at hl 1 rfl) ?_
  refine lv_iload_n hx hb dX1_lend_33 rfl (lv_at hl 2 rfl) ?_
  refine lv_iload_n hx hb dX1_lend_34 rfl (lv_at hl 3 rfl) ?_
  refine k_callI (As := [.int (nI n), .int x2, .int x3]) (rest := [.ref q, .ref (y (50 + k))]) C hml (c_X5_init hq) (cwI 3 hts ggX1_lend_X5_init rfl rfl rfl (hts (.initialized yX5_init.cls) (by decide +kernel)) (hts (.methodLink RX1 72 yX5_init) (by decide +kernel)) (hts (.instanceMethod yX5_init) (by decide +kernel)) rfl (by decide +kernel) ⟨by decide, by decide⟩) hW hS hB rfl hl.1 rfl (Nat.le_of_ble_eq_true rfl) dX1_lend_35 ⟨Nat.le_of_ble_eq_true rfl, Nat.le_of_ble_eq_true rfl⟩ (fun S4 H locs hp9 hW hS => ?_)
  have hl9 : (IsAt S4 5 q ∧ fI S4 500 q = nI n ∧ fI S4 501 q = x2 ∧ fI S4 502 q = x3) ∧ Fr S3 S4 (fun b => b = q) := by rw [hp9]; exact ⟨⟨hq, by simp [sI_s, sI_f], by simp [sI_s, sI_f], by simp [sI_s, sI_f]⟩, Fr_sIa (Fr_sIa (Fr_sIa Fr.rf))⟩
  have hfr : Fr S2 S4 (fun _ => False) := hnew.tr hl9.2 (fun b hb z => qn (by rw [← z]; exact hb))
  replace hC : CR S4 y dE (iL g 5 k (g.2.1 5 k - 1000 * x2.toInt64)) (csE c0 k ((cE c0 k) + x2)) := hC0.fr0 hfr (hW.nd hE.1.2.2)
  replace hF : CF S S4 y := hF0.tr (CF.of hfr (fun b hb z => z.elim))
  clear hC0 hF0 hnew
  have hnl : ∀ i, i < 8 → n ∉ cQl (csE c0 k (cE c0 k + x2)) i := hCB.no (Nat.le_refl _)
  have hC5 : CR S4 y dE (kLend g n k x2 x3) (csE c0 k (cE c0 k + x2)) := ((hC.g8 (i := n) (v := nI k)).g9 (v := x2) hnl).g10 (v := x3) hnl
  have hH : LAt S4 q n (kLend g n k x2 x3) := by
    obtain ⟨⟨u0, u1, u2, u3⟩, -⟩ := hl9
    exact ⟨u0, u1, u2.trans (iI_s (g := iI (iL g 5 k (g.2.1 5 k - 1000 * x2.toInt64)) 8 n (nI k)) (j := 9)).symm, u3.trans iI_s.symm, by omega⟩
  refine k_callVi (As := [.ref q]) (rest := []) C hml (c_Jx4a65c_add_9ea2d_L hE.1 (hC.2.bl k hk8) (by rw [List.length_map, show cQl (csE c0 k (cE c0 k + x2)) k = lsB g k n from (hCB k hk8).1]; exact Nat.lt_of_le_of_lt (fil_len _ _) (by omega)) hH.1 ((hC.2.bl k hk8).el (fun z hz => (hC.1.bv k hk8 z hz).1)) hE.2.2.1 hE.2.2.2.2.2.1 hE.2.2.2.2.2.2.1 hE.2.2.2.2.2.2.2) (cwV 1 hts gX1_lend_Jx4a65c_add_9ea2d rfl rfl rfl (by decide +kernel) ⟨by decide, by decide⟩) hW hS hB ((hC.2.bl k (by omega)).1).1 (pAt_12 ((hC.2.bl k (by omega)).1).2) rfl rfl hl.1 rfl (Nat.le_of_ble_eq_true rfl) dX1_lend_38 ⟨Nat.le_of_ble_eq_true rfl, Nat.le_of_ble_eq_true rfl⟩ (fun r9 S5 H locs hp9 hW hS => ?_)
  obtain ⟨a9, e9⟩ := hp9
  subst e9
  have hF9 : CF S S5 y := hF.tr (CF.lk a9.fr (LK_list hC.2 (i := 48 + k) (by omega) (hC.2.bl k hk8).1))
  obtain ⟨ee, hC9⟩ := hC5.badd (h0 := n) hk8 a9 hnl hH (hW.nd hE.1.2.2)
  clear hC hF
  have hC := hC9
  have hF := hF9
  refine lv_pop hx hb dX1_lend_41 rfl ?_
  exact k_vret C hr hlk hW hS hB ⟨_, hF, hC, hCB.add hk8 hn ht rfl rfl, rfl⟩ (Nat.le_of_ble_eq_true rfl) (Nat.le_of_ble_eq_true rfl) dX1_lend_42
