section L2
variable {p : Program} {l : Launch} {e : Env} {R : Room} {s : State} {m : MethodId} {args : Array Value} {below : List Frame} {meth : Method} {c : Code} {H : Heap} {locs : List Loc} {cells slots : Nat} {Q : State → Prop} {cc : ByteArray} {pc : Nat} {ls : Array Slot} {rest : List Value} {D : va_G} {cy : Nat → ClassId} {B : Nat} {S : PS} {Ts : List Cond} {own : String} {H0 : Heap} {s0 : State}
theorem p_1200d (C : Cx p s m args c cc Ts own D cy B s0) (hin : ∀ w ∈ wsJx4a65c0, w ∈ Ts) (hW : PW D cy B S H) (hS : va_S (Aw B) H0 H locs) {a index : Nat} {v : Int32} (hA : IsAt S 12 a) (hlink : Cond.fieldLink own index "java/util/AbstractList" "modCount" "I" ∈ Ts) (hdg : decode cc pc = .ok (.putfield index, 3)) (kk : ∀ (S1 : PS) (H1 : Heap) (locs1 : List Loc), S1 = sI S 1200 a v → PW D cy B S1 H1 → va_S (Aw B) H0 H1 locs1 → W p l e R s m args below meth c H1 locs1 cells slots Q (F0 m (pc + 3) ls rest)) : W p l e R s m args below meth c H locs cells slots Q (F0 m pc ls (.int v :: .ref a :: rest)) :=
  pw_put C hin tyJx4a65c tyJx4a65c_ok nmJx4a65c hW hS hA.1 (pAt_12 hA.2) rfl 0 (by decide) hlink (fun _ h9 => h9) rfl (ty := .int) (by decide +kernel) rfl rfl (Nat.le_of_ble_eq_true rfl) (S2 := sI S 1200 a v) rfl (pF_up (sI_off) (by rw [pAt_12 (S := sI S 1200 a v) hA.2]; simp [sI_s, sI_f, sI_fJ, sI_fR, va_rf])) hdg (fun H1 locs1 hW1 hS1 => kk _ H1 locs1 rfl hW1 hS1)
end L2
set_option maxRecDepth 100000 in
set_option maxHeartbeats 1000000 in
theorem c_Jxa1e45_init_da8c8 {l : Launch} {D : va_G} {cy : Nat → ClassId} {B : Nat} {s0 : State} {S : PS} {a : Nat}  : KV l yJxa1e45_init_da8c8 wsJxa1e45_init_da8c8 ({ frames := 1, cells := 0, slots := 0, locals := 12 }) D cy B s0 [.ref a] S (fun S2 => S2 = S) 0 0 := by
  refine k_body (own := RJxa1e45) (cc := cJxa1e45_init_da8c8) (maxL := 1) (ret := none) rfl (by decide) rfl (Nat.le_of_ble_eq_true rfl) ?_
  intro p e s m below meth c C hml hr hlk hnm hB hW ls hl
  obtain ⟨hx, hb, hts, hown, hK, hEn⟩ := id C
  have hS : va_S (Aw B) s.heap s.heap [] := va_S.rf
  have hl : lv_has ls 1 [(0, .ref a)] := hl
  refine lv_aload_n hx hb dJxa1e45_init_da8c8_0 rfl (lv_at hl 0 rfl) ?_
  refine W.objInit hx hb hown (hts (.methodLink RJxa1e45 1 objectInit) (by decide +kernel)) (hts (.instanceMethod objectInit) (by decide +kernel)) (hts _ (List.mem_of_getElem? (l := wsJxa1e45_init_da8c8) (i := 3) rfl)) rfl (by rw [hml]; exact hl.1) rfl dJxa1e45_init_da8c8_1 (Nat.le_of_ble_eq_true rfl) (Nat.le_of_ble_eq_true rfl) ?_
  refine W.eq (g2 := F0 m 4 ls []) rfl ?_
  exact k_vret C hr hlk hW hS hB rfl (Nat.le_refl _) (Nat.le_refl _) dJxa1e45_init_da8c8_4
set_option maxRecDepth 100000 in
set_option maxHeartbeats 1000000 in
theorem c_Jxc12de_init_da8c8 {l : Launch} {D : va_G} {cy : Nat → ClassId} {B : Nat} {s0 : State} {S : PS} {a : Nat} (h : IsAt S 12 a) : KV l yJxc12de_init_da8c8 wsJxc12de_init_da8c8 ({ frames := 2, cells := 0, slots := 0, locals := 32 }) D cy B s0 [.ref a] S (fun S2 => S2 = sI S 1200 a 0) 0 0 := by
  refine k_body (own := RJxc12de) (cc := cJxc12de_init_da8c8) (maxL := 1) (ret := none) rfl (by decide) rfl (Nat.le_of_ble_eq_true rfl) ?_
  intro p e s m below meth c C hml hr hlk hnm hB hW ls hl
  obtain ⟨hx, hb, hts, hown, hK, hEn⟩ := id C
  have hS : va_S (Aw B) s.heap s.heap [] := va_S.rf
  have hinJxc12de : ∀ w ∈ wsJxc12de0, w ∈ wsJxc12de_init_da8c8 := by decide +kernel
  have l7 : Cond.fieldLink RJxc12de 7 "java/util/AbstractList" "modCount" "I" ∈ wsJxc12de_init_da8c8 := by decide +kernel
  have hl : lv_has ls 1 [(0, .ref a)] := hl
  have hinJx4a65c : ∀ w ∈ wsJx4a65c0, w ∈ wsJxc12de_init_da8c8 := by decide +kernel
  refine lv_aload_n hx hb dJxc12de_init_da8c8_0 rfl (lv_at hl 0 rfl) ?_
  refine k_callI (As := []) (rest := []) C hml (c_Jxa1e45_init_da8c8) (cwI 0 hts ggJxc12de_init_da8c8_Jxa1e45_init_da8c8 rfl rfl rfl (hts (.initialized yJxa1e45_init_da8c8.cls) (by decide +kernel)) (hts (.methodLink RJxc12de 1 yJxa1e45_init_da8c8) (by decide +kernel)) (hts (.instanceMethod yJxa1e45_init_da8c8) (by decide +kernel)) rfl (by decide +kernel) ⟨by decide, by decide⟩) hW hS hB rfl hl.1 rfl (Nat.le_of_ble_eq_true rfl) dJxc12de_init_da8c8_1 ⟨Nat.le_of_ble_eq_true rfl, Nat.le_of_ble_eq_true rfl⟩ (fun S1 H locs hp9 hW hS => ?_)
  rw [hp9] at hW
  refine lv_aload_n hx hb dJxc12de_init_da8c8_4 rfl (lv_at hl 0 rfl) ?_
  refine lv_iconst (v := 0) hx hb dJxc12de_init_da8c8_5 (by decide) ?_
  refine p_1200d C hinJx4a65c hW hS h l7 dJxc12de_init_da8c8_6 (fun S1 H locs e1 hW hS => ?_)
  subst e1
  exact k_vret C hr hlk hW hS hB rfl (Nat.le_refl _) (Nat.le_refl _) dJxc12de_init_da8c8_9
set_option maxRecDepth 100000 in
set_option maxHeartbeats 1000000 in
theorem c_Jx4a65c_init_da8c8 {l : Launch} {D : va_G} {cy : Nat → ClassId} {B : Nat} {s0 : State} {S : PS} {dE a : Nat} (hd : Sd dE B s0) (h : IsAt S 12 a) : KV l yJx4a65c_init_da8c8 wsJx4a65c_init_da8c8 ({ frames := 3, cells := 0, slots := 0, locals := 52 }) D cy B s0 [.ref a] S (fun S2 => S2 = sR (sI S 1200 a 0) 1201 a (some dE)) 0 0 := by
  refine k_body (own := RJx4a65c) (cc := cJx4a65c_init_da8c8) (maxL := 1) (ret := none) rfl (by decide) rfl (Nat.le_of_ble_eq_true rfl) ?_
  intro p e s m below meth c C hml hr hlk hnm hB hW ls hl
  obtain ⟨hx, hb, hts, hown, hK, hEn⟩ := id C
  have hS : va_S (Aw B) s.heap s.heap [] := va_S.rf
  have hinJx4a65c : ∀ w ∈ wsJx4a65c0, w ∈ wsJx4a65c_init_da8c8 := by decide +kernel
  have l9 : Cond.fieldLink RJx4a65c 9 "java/util/ArrayList" "elementData" "[Ljava/lang/Object;" ∈ wsJx4a65c_init_da8c8 := by decide +kernel
  have hl : lv_has ls 1 [(0, .ref a)] := hl
  refine lv_aload_n hx hb dJx4a65c_init_da8c8_0 rfl (lv_at hl 0 rfl) ?_
  refine k_callI (As := []) (rest := []) C hml (c_Jxc12de_init_da8c8 h) (cwI 0 hts ggJx4a65c_init_da8c8_Jxc12de_init_da8c8 rfl rfl rfl (hts (.initialized yJxc12de_init_da8c8.cls) (by decide +kernel)) (hts (.methodLink RJx4a65c 1 yJxc12de_init_da8c8) (by decide +kernel)) (hts (.instanceMethod yJxc12de_init_da8c8) (by decide +kernel)) rfl (by decide +kernel) ⟨by decide, by decide⟩) hW hS hB rfl hl.1 rfl (Nat.le_of_ble_eq_true rfl) dJx4a65c_init_da8c8_1 ⟨Nat.le_of_ble_eq_true rfl, Nat.le_of_ble_eq_true rfl⟩ (fun S1 H locs hp9 hW hS => ?_)
  subst hp9
  refine lv_aload_n hx hb dJx4a65c_init_da8c8_4 rfl (lv_at hl 0 rfl) ?_
  refine k_dE C hS hd (show Cond.fieldLink RJx4a65c 39 "java/util/ArrayList" "DEFAULTCAPACITY_EMPTY_ELEMENTDATA" "[Ljava/lang/Object;" ∈ wsJx4a65c_init_da8c8 by decide +kernel) dJx4a65c_init_da8c8_5 ?_
  refine p_1201 C hinJx4a65c hW hS h l9 dJx4a65c_init_da8c8_8 (fun S1 H locs e1 hW hS => ?_)
  subst e1
  exact k_vret C hr hlk hW hS hB rfl (Nat.le_refl _) (Nat.le_refl _) dJx4a65c_init_da8c8_11
theorem nulls_dummy : True := trivial
/-- behind clear: nothing is in the list -/
def nulls (S : PS) (ea : Nat) : Nat → PS
  | 0 => S
  | i + 1 => tQ (nulls S ea i) ea i none
theorem nulls_alo {S S0 : PS} {a ea : Nat} (h : ALO S0 S a ea) (i : Nat) : ALO S0 (nulls S ea i) a ea := by
  induction i with
  | zero => exact h
  | succ i ih => exact ih.q
theorem nulls_f (S : PS) (ea i : Nat) : fI (nulls S ea i) = fI S := by
  induction i with
  | zero => rfl
  | succ i ih => exact ih
theorem nulls_at {S : PS} {a ea k b : Nat} {v w : Int32} {i : Nat} (h : IsAt S k b) : IsAt (nulls (sI (sI S 1200 a v) 1202 a w) ea i) k b := by
  induction i with
  | zero => exact h
  | succ i ih => exact ih
theorem nulls_n {S : PS} {a ea : Nat} {v w : Int32} {i : Nat} : aN (nulls (sI (sI S 1200 a v) 1202 a w) ea i) ea = aN S ea := by
  induction i with
  | zero => rfl
  | succ i ih => exact ih
theorem AL.cleared {S S2 : PS} {dE a ea : Nat} {L : List Nat} (h : AL S dE a ea L) (hO : ALO S S2 a ea) (hz : fI S2 1202 a = nI 0) : AL S2 dE a ea [] := by
  have hk : ∀ k b, IsAt S k b → IsAt S2 k b := fun k b z => ⟨by rw [hO.1]; exact z.1, by rw [hO.2.1]; exact z.2⟩
  refine ⟨hk _ _ h.1, by rw [hO.2.2.1]; exact h.2.1, hz, Nat.zero_le _, ?_⟩
  rcases h.2.2.2.2 with ⟨-, z⟩ | z
  · exact Or.inl ⟨rfl, z⟩
  · exact Or.inr ⟨hk _ _ z.1, by rw [hO.2.2.2.2.1]; exact z.2.1, by rw [hO.2.2.2.2.1]; exact z.2.2.1, Nat.zero_le _, fun i hi => absurd hi (Nat.not_lt_zero _)⟩
set_option maxRecDepth 100000 in
set_option maxHeartbeats 1000000 in
theorem c_Jx4a65c_clear_da8c8 {l : Launch} {D : va_G} {cy : Nat → ClassId} {B : Nat} {s0 : State} {S : PS} {dE a ea : Nat} {L : List Nat} (h : AL S dE a ea L) : KV l yJx4a65c_clear_da8c8 wsJx4a65c_clear_da8c8 ({ frames := 0, cells := 0, slots := 0, locals := 0 }) D cy B s0 [.ref a] S (fun S2 => ALO S S2 a ea ∧ AL S2 dE a ea []) 0 0 := by
  refine k_body (own := RJx4a65c) (cc := cJx4a65c_clear_da8c8) (maxL := 4) (ret := none) rfl (by decide) rfl (Nat.le_of_ble_eq_true rfl) ?_
  intro p e s m below meth c C hml hr hlk hnm hB hW ls hl
  obtain ⟨hx, hb, hts, hown, hK, hEn⟩ := id C
  have hS : va_S (Aw B) s.heap s.heap [] := va_S.rf
  have hinJx4a65c : ∀ w ∈ wsJx4a65c0, w ∈ wsJx4a65c_clear_da8c8 := by decide +kernel
  have l9 : Cond.fieldLink RJx4a65c 9 "java/util/ArrayList" "elementData" "[Ljava/lang/Object;" ∈ wsJx4a65c_clear_da8c8 := by decide +kernel
  have l48 : Cond.fieldLink RJx4a65c 48 "java/util/ArrayList" "size" "I" ∈ wsJx4a65c_clear_da8c8 := by decide +kernel
  have l63 : Cond.fieldLink RJx4a65c 63 "java/util/ArrayList" "modCount" "I" ∈ wsJx4a65c_clear_da8c8 := by decide +kernel
  have hl : lv_has ls 4 [(0, .ref a)] := hl
  have hl4 := h.2.2.2.1
  have lsm : Cond.sameField "java/util/ArrayList" "java/util/AbstractList" "modCount" "I" ∈ wsJx4a65c_clear_da8c8 := by decide +kernel
  refine lv_aload_n hx hb dJx4a65c_clear_da8c8_0 rfl (lv_at hl 0 rfl) ?_
  refine lv_dup hx hb dJx4a65c_clear_da8c8_1 rfl ?_
  refine g_1200 C hinJx4a65c hW h.1 l63 lsm dJx4a65c_clear_da8c8_2 ?_
  refine lv_iconst (v := 1) hx hb dJx4a65c_clear_da8c8_5 (by decide) ?_
  refine lv_iadd hx hb dJx4a65c_clear_da8c8_6 ?_
  refine p_1200 C hinJx4a65c hW hS h.1 l63 lsm dJx4a65c_clear_da8c8_7 (fun S1 H locs e1 hW hS => ?_)
  subst e1
  refine lv_aload_n hx hb dJx4a65c_clear_da8c8_10 rfl (lv_at hl 0 rfl) ?_
  refine g_1201 C hinJx4a65c hW h.1 h.2.1 l9 dJx4a65c_clear_da8c8_11 ?_
  refine lv_astore_n (lv' := [(1, .ref ea), (0, .ref a)]) hx hb dJx4a65c_clear_da8c8_14 rfl hl (by decide) rfl (fun ls hl => ?_)
  refine lv_aload_n hx hb dJx4a65c_clear_da8c8_15 rfl (lv_at hl 1 rfl) ?_
  refine g_1202 C hinJx4a65c hW h.1 l48 dJx4a65c_clear_da8c8_16 ?_
  refine top_i (show fI (sI S 1200 a ((fI S 1200 a) + 1)) 1202 a = nI L.length from h.2.2.1) ?_
  refine lv_istore_n (lv' := [(2, .int (nI L.length)), (1, .ref ea), (0, .ref a)]) hx hb dJx4a65c_clear_da8c8_19 rfl hl (by decide) rfl (fun ls hl => ?_)
  refine lv_aload_n hx hb dJx4a65c_clear_da8c8_20 rfl (lv_at hl 2 rfl) ?_
  refine lv_iconst (v := 0) hx hb dJx4a65c_clear_da8c8_21 (by decide) ?_
  refine lv_dup_x1 hx hb dJx4a65c_clear_da8c8_22 rfl rfl ?_
  refine p_1202 C hinJx4a65c hW hS h.1 l48 dJx4a65c_clear_da8c8_23 (fun S1 H locs e1 hW hS => ?_)
  subst e1
  refine lv_istore_n (lv' := [(3, .int 0), (2, .int (nI L.length)), (1, .ref ea), (0, .ref a)]) hx hb dJx4a65c_clear_da8c8_26 rfl hl (by decide) rfl (fun ls hl => ?_)
  have lp : ∀ (d k : Nat) (Sk : PS) (H : Heap) (locs : List Loc) (ls : Array Slot), k ≤ L.length → L.length - k < d → Sk = nulls (sI (sI S 1200 a (fI S 1200 a + 1)) 1202 a 0) ea k → PW D cy B Sk H → va_S (Aw B) s.heap H locs → lv_has ls 4 [(0, .ref a), (1, .ref ea), (2, .int (nI L.length)), (3, .int (nI k))] → W p l e ({ frames := 0, cells := 0, slots := 0, locals := 0 }) s m [.ref a].toArray below meth c H locs 0 0 (MQ below (va_Qv (fun S2 => ALO S S2 a ea ∧ AL S2 dE a ea []) (PreW D cy B s0) (Aw B)) [.ref a].toArray s 0 0 (Aw B)) (F0 m 27 ls []) := by
    intro d
    induction d with
    | zero => intro k  Sk H locs ls _ hd; exact absurd hd (Nat.not_lt_zero _)
    | succ d ih =>
      intro k  Sk H locs ls hk hd eS hW hS hl
      subst eS
      refine lv_iload_n hx hb dJx4a65c_clear_da8c8_27 rfl (lv_at hl 3 rfl) ?_
      refine lv_iload_n hx hb dJx4a65c_clear_da8c8_28 rfl (lv_at hl 2 rfl) ?_
      refine lv_icmp_ge (tgt := 42) hx hb dJx4a65c_clear_da8c8_29 (by decide) (fun c_29 => ?_) (fun c_29 => ?_)
      · have q_29 : L.length ≤ k := (nI_leI (a := L.length) (b := k) (by omega) (by omega)).mp c_29
        exact k_vret C hr hlk hW hS hB ⟨nulls_alo ALO.rf.f.f _, h.cleared (nulls_alo ALO.rf.f.f _) (by rw [nulls_f]; exact sI_s)⟩ (Nat.le_refl _) (Nat.le_refl _) dJx4a65c_clear_da8c8_42
      · have q_29 : ¬ (L.length ≤ k) := fun z => c_29 ((nI_leI (a := L.length) (b := k) (by omega) (by omega)).mpr z)
        have hA := h.arr (i := k) (by omega)
        have hA4 := hA.2.2.2.1
        have hA3 := hA.2.2.1
        refine lv_aload_n hx hb dJx4a65c_clear_da8c8_32 rfl (lv_at hl 1 rfl) ?_
        refine lv_iload_n hx hb dJx4a65c_clear_da8c8_33 rfl (lv_at hl 3 rfl) ?_
        refine lv_null hx hb dJx4a65c_clear_da8c8_34 ?_
        refine a_ObjectstoreN C hW hS (j := k) (nulls_at hA.1) (nulls_n (ea := ea)) rfl (by omega) (by omega) dJx4a65c_clear_da8c8_35 (fun S1 H locs e1 hW hS => ?_)
        subst e1
        refine lv_iinc (v := nI (k + 1)) (lv' := [(3, .int (nI (k + 1))), (0, .ref a), (1, .ref ea), (2, .int (nI L.length))]) hx hb dJx4a65c_clear_da8c8_36 hl (k := 3) rfl (nI_add k 1) (by decide) rfl (fun ls hl => ?_)
        refine lv_goto (tgt := 27) hx hb dJx4a65c_clear_da8c8_39 (by decide) ?_
        exact ih (k + 1)  _ _ _ ls (by omega) (by omega) rfl hW hS (lv_sub hl [1, 2, 3, 0] rfl)
  exact lp (L.length - 0 + 1) 0  _ _ _ ls (by omega) (by omega) rfl hW hS (lv_sub hl [3, 2, 1, 0] rfl)
