/-! the law's loop -/
theorem and15 (x : Int32) : ∃ o, o < 16 ∧ x &&& 15 = nI o := by
  refine ⟨(x &&& 15).toBitVec.toNat, ?_, ?_⟩
  · rw [Int32.toBitVec_and, BitVec.toNat_and]
    exact Nat.lt_of_le_of_lt Nat.and_le_right (by decide)
  · apply Int32.toBitVec_inj.mp
    show _ = BitVec.ofNat 32 _
    rw [BitVec.ofNat_toNat, BitVec.setWidth_eq]
theorem LJ.up {S : PS} {x0 dE a ob k : Nat} (h : LJ S x0 dE a ob k) : LJ S x0 dE a ob (k + 1) := by
  obtain ⟨y, t, g, n, f, cs, h1, h2, h3, h4, h5⟩ := h
  exact ⟨y, t, g, n, f, cs, h1, h2, h3, h4.nx, h5⟩
theorem head_lt {L k : Nat} (hL : L ≤ 2048) (hk : k ≤ 512) (h : ¬ Int32.ofNat L - 4 < nI (4 * k)) : 4 * k + 3 < L := by
  have e1 : (Int32.ofNat L).toInt = (L : Int) := nI_toInt (n := L) (by omega)
  have e4 : (4 : Int32).toInt = 4 := rfl
  have e2 : (Int32.ofNat L - 4).toInt = (L : Int) - 4 := by rw [i32_sub (by omega) (by omega), e1, e4]
  have e3 : (nI (4 * k)).toInt = ((4 * k : Nat) : Int) := nI_toInt (by omega)
  rw [Int32.lt_iff_toInt_lt, e2, e3] at h
  omega
set_option maxRecDepth 100000 in
set_option maxHeartbeats 1000000 in
theorem law_loop {p : Program} {l : Launch} {e : Env} {s : State} {m : MethodId} {below : List Frame} {meth : Method} {c : Code} {D : va_G} {cy : Nat → ClassId} {b L : Nat} {xs : Nat → Int32} {dE mi a ob x0 : Nat} (C : Cx p s m #[Value.ref b] c cL_law wsL_law RL D cy s.heap.size s) (hml : c.maxLocals = 7) (hr : meth.sig.returnType = ret) (hlk : meth.locks = false) (hE : EnvC dE mi s.heap.size s) (hEx : EnvX s.heap.size s) (hls : l.stackTraces = false) (hX : va_X b L xs s s.heap) (hbl : b < s.heap.size) (hL : L ≤ 2048) :
    ∀ (fu k : Nat), 513 ≤ k + fu → k ≤ 512 → ∀ (S : PS) (H : Heap) (locs : List Loc) (ls : Array Slot), LJ S x0 dE a ob k → PW D cy s.heap.size S H → va_S (Aw s.heap.size) s.heap H locs → lv_has ls 7 [(0, .ref b), (1, .ref x0), (2, .ref a), (3, .ref ob), (4, .int (nI (4 * k)))] →
      W p l e room_1 s m #[Value.ref b] below meth c H locs (219 + 308 * k) (6816 + 2464 * k) (lw_Z below #[Value.ref b] s) (F0 m 23 ls []) := by
  obtain ⟨hx, hb, hts, hown, hK, hEn⟩ := id C
  have hbA : ¬ Aw s.heap.size b := Nat.not_le.mpr hbl
  intro fu
  induction fu with
  | zero => intro k h1 h2; exact absurd h1 (by omega)
  | succ fu ih =>
    intro k h1 h2 S H locs ls hJ hW hS hl
    refine lv_iload hx hb dL_law_23 (lv_at hl 4 rfl) ?_
    refine lv_aload_n hx hb dL_law_25 rfl (lv_at hl 0 rfl) ?_
    refine va_slen hx hb hX hbl hbA hS dL_law_26 ?_
    refine lv_iconst (v := 4) hx hb dL_law_27 (by decide) ?_
    refine lv_isub hx hb dL_law_28 ?_
    refine lv_icmp_gt (tgt := 941) hx hb dL_law_29 (by decide) (fun c_29 => ?_) (fun c_29 => ?_)
    · refine lv_iconst (v := 1) hx hb dL_law_941 (by decide) ?_
      refine va_forget (fun q hq => hS.2.2 q hq) ?_
      refine W.widen (k := 601024) (n := 7293034) (by omega) (by omega) ?_
      exact lw_ret hx hb hr hlk dL_law_942
    · have hi := head_lt hL h2 c_29
      have go : ∀ (S1 : PS) (H1 : Heap) (locs1 : List Loc) (ls1 : Array Slot), LJ S1 x0 dE a ob (k + 1) → PW D cy s.heap.size S1 H1 → va_S (Aw s.heap.size) s.heap H1 locs1 → lv_has ls1 7 [(0, .ref b), (1, .ref x0), (2, .ref a), (3, .ref ob), (4, .int (nI (4 * k)))] → W p l e room_1 s m #[Value.ref b] below meth c H1 locs1 (219 + 308 * k + 308) (6816 + 2464 * k + 2464) (lw_Z below #[Value.ref b] s) (F0 m 935 ls1 []) := by
        intro S1 H1 locs1 ls1 hJ1 hW1 hS1 hl1
        refine lv_iinc (v := nI (4 * (k + 1))) (lv' := [(4, .int (nI (4 * (k + 1)))), (0, .ref b), (1, .ref x0), (2, .ref a), (3, .ref ob)]) hx hb dL_law_935 hl1 (k := 4) rfl (nI_add (4 * k) 4) (by decide) rfl (fun ls2 hl2 => ?_)
        refine lv_goto (tgt := 23) hx hb dL_law_938 (by decide) ?_
        exact W.widen (by omega) (by omega) (ih (k + 1) (by omega) (by omega) S1 H1 locs1 ls2 hJ1 hW1 hS1 (lv_sub hl2 [1, 2, 3, 4, 0] rfl))
      obtain ⟨y, t, g, n, f, cs, e0, hI⟩ := id hJ
      subst e0
      refine lv_aload_n hx hb dL_law_32 rfl (lv_at hl 0 rfl) ?_
      refine lv_iload hx hb dL_law_33 (lv_at hl 4 rfl) ?_
      refine k_scr hx hb hX hbl hbA hS (j := 4 * k) (by omega) hL rfl dL_law_35 ?_
      refine lv_bipush (v := 15) hx hb dL_law_36 (by decide) ?_
      refine lv_iand hx hb dL_law_38 ?_
      obtain ⟨o, ho, eo⟩ := and15 (xs (4 * k))
      refine top_i eo ?_
      have hf : 219 + 308 * k + 308 ≤ 601024 ∧ 6816 + 2464 * k + 2464 ≤ 7293034 := ⟨by omega, by omega⟩
      rcases (show o = 0 ∨ o = 1 ∨ o = 2 ∨ o = 3 ∨ o = 4 ∨ o = 5 ∨ o = 6 ∨ o = 7 ∨ o = 8 ∨ o = 9 ∨ o = 10 ∨ o = 11 ∨ o = 12 ∨ o = 13 ∨ o = 14 ∨ o = 15 by omega) with rfl | rfl | rfl | rfl | rfl | rfl | rfl | rfl | rfl | rfl | rfl | rfl | rfl | rfl | rfl | rfl
      · refine lv_tableIn (tgt := 112) (off := 73) hx hb dL_law_39 (by decide) (by decide) (by decide) (by decide) ?_
        exact law_key C hml hE hEx hls hX hbl hbA (Nat.le_refl _) hL hi hI hW hS hl hf go
      · refine lv_tableIn (tgt := 172) (off := 133) hx hb dL_law_39 (by decide) (by decide) (by decide) (by decide) ?_
        exact law_length C hml hE hEx hls hX hbl hbA (Nat.le_refl _) hL hi hI hW hS hl hf go
      · refine lv_tableIn (tgt := 208) (off := 169) hx hb dL_law_39 (by decide) (by decide) (by decide) (by decide) ?_
        exact law_weight C hml hE hEx hls hX hbl hbA (Nat.le_refl _) hL hi hI hW hS hl hf go
      · refine lv_tableIn (tgt := 268) (off := 229) hx hb dL_law_39 (by decide) (by decide) (by decide) (by decide) ?_
        exact law_speed C hml hE hEx hls hX hbl hbA (Nat.le_refl _) hL hi hI hW hS hl hf go
      · refine lv_tableIn (tgt := 316) (off := 277) hx hb dL_law_39 (by decide) (by decide) (by decide) (by decide) ?_
        exact law_take C hml hE hEx hls hX hbl hbA (Nat.le_refl _) hL hi hI hW hS hl hf go
      · refine lv_tableIn (tgt := 403) (off := 364) hx hb dL_law_39 (by decide) (by decide) (by decide) (by decide) ?_
        exact law_work C hml hE hEx hls hX hbl hbA (Nat.le_refl _) hL hi hI hW hS hl hf go
      · refine lv_tableIn (tgt := 459) (off := 420) hx hb dL_law_39 (by decide) (by decide) (by decide) (by decide) ?_
        exact law_carry C hml hE hEx hls hX hbl hbA (Nat.le_refl _) hL hi hI hW hS hl hf go
      · refine lv_tableIn (tgt := 522) (off := 483) hx hb dL_law_39 (by decide) (by decide) (by decide) (by decide) ?_
        exact law_drop C hml hE hEx hls hX hbl hbA (Nat.le_refl _) hL hi hI hW hS hl hf go
      · refine lv_tableIn (tgt := 558) (off := 519) hx hb dL_law_39 (by decide) (by decide) (by decide) (by decide) ?_
        exact law_tick C hml hE hEx hls hX hbl hbA (Nat.le_refl _) hL hi hI hW hS hl hf go
      · refine lv_tableIn (tgt := 594) (off := 555) hx hb dL_law_39 (by decide) (by decide) (by decide) (by decide) ?_
        exact law_restart C hml hE hEx hls hX hbl hbA (Nat.le_refl _) hL hi hI hW hS hl hf go
      · refine lv_tableIn (tgt := 650) (off := 611) hx hb dL_law_39 (by decide) (by decide) (by decide) (by decide) ?_
        exact law_root C hml hE hEx hls hX hbl hbA (Nat.le_refl _) hL hi hI hW hS hl hf go
      · refine lv_tableIn (tgt := 718) (off := 679) hx hb dL_law_39 (by decide) (by decide) (by decide) (by decide) ?_
        exact law_gate C hml hE hEx hls hX hbl hbA (Nat.le_refl _) hL hi hI hW hS hl hf go
      · refine lv_tableIn (tgt := 798) (off := 759) hx hb dL_law_39 (by decide) (by decide) (by decide) (by decide) ?_
        exact law_message C hml hE hEx hls hX hbl hbA (Nat.le_refl _) hL hi hI hW hS hl hf go
      · refine lv_tableIn (tgt := 866) (off := 827) hx hb dL_law_39 (by decide) (by decide) (by decide) (by decide) ?_
        exact law_sent C hml hE hEx hls hX hbl hbA (Nat.le_refl _) hL hi hI hW hS hl hf go
      · refine lv_tableIn (tgt := 879) (off := 840) hx hb dL_law_39 (by decide) (by decide) (by decide) (by decide) ?_
        exact law_clock C hml hE hEx hls hX hbl hbA (Nat.le_refl _) hL hi hI hW hS hl hf go
      · refine lv_tableOut (tgt := 935) hx hb dL_law_39 (Or.inr (by decide)) (by decide) ?_
        exact W.widen (by omega) (by omega) (go S H locs ls hJ.up hW hS hl)
