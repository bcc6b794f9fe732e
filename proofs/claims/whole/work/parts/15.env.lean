def EnvC (dE mi B : Nat) (s0 : State) : Prop := Sd dE B s0 ∧ va_Nw (.castable "LeaseGates$Hold" "java/lang/Object") s0 ∧ va_Nw (.castable "LeaseGates$Loan" "java/lang/Object") s0 ∧ va_Nw (.castable "LeaseGates$Hold" "LeaseGates$Hold") s0 ∧ va_Nw (.castable "LeaseGates$Loan" "LeaseGates$Loan") s0 ∧ va_Mi "[Ljava/lang/Object;" mi s0 ∧ va_Dc s0 ∧ va_AO "java/lang/Object" s0
section L5
variable {p : Program} {l : Launch} {e : Env} {R : Room} {s : State} {m : MethodId} {args : Array Value} {below : List Frame} {meth : Method} {c : Code} {H : Heap} {locs : List Loc} {cells slots : Nat} {Q : State → Prop} {cc : ByteArray} {pc : Nat} {ls : Array Slot} {rest : List Value} {D : va_G} {cy : Nat → ClassId} {B : Nat} {S : PS} {Ts : List Cond} {own : String} {H0 : Heap} {s0 : State}
theorem k_cast4 (C : Cx p s m args c cc Ts own D cy B s0) (hW : PW D cy B S H) {a index : Nat} (hA : IsAt S 4 a) (hcs : va_Nw (.castable "LeaseGates$Hold" "LeaseGates$Hold") s0) (h1 : Cond.classLink own index "LeaseGates$Hold" ∈ Ts) (hdg : decode cc pc = .ok (.checkcast index, 3)) (kk : W p l e R s m args below meth c H locs cells slots Q (F0 m (pc + 3) ls (.ref a :: rest))) : W p l e R s m args below meth c H locs cells slots Q (F0 m pc ls (.ref a :: rest)) := by
  obtain ⟨hx, hb, hts, hown, hK, hEn⟩ := C
  obtain ⟨k2, hk2⟩ := va_pl_get (X := []) (f := pF cy S) hA.1
  rw [pAt_4 hA.2] at hk2
  exact va_castY hx hb hown (hts _ h1) (castW hEn hcs) (va_recv hK hW.1 (ci := 5) (q0 := k2) rfl hk2) hdg kk
theorem k_cast5 (C : Cx p s m args c cc Ts own D cy B s0) (hW : PW D cy B S H) {a index : Nat} (hA : IsAt S 5 a) (hcs : va_Nw (.castable "LeaseGates$Loan" "LeaseGates$Loan") s0) (h1 : Cond.classLink own index "LeaseGates$Loan" ∈ Ts) (hdg : decode cc pc = .ok (.checkcast index, 3)) (kk : W p l e R s m args below meth c H locs cells slots Q (F0 m (pc + 3) ls (.ref a :: rest))) : W p l e R s m args below meth c H locs cells slots Q (F0 m pc ls (.ref a :: rest)) := by
  obtain ⟨hx, hb, hts, hown, hK, hEn⟩ := C
  obtain ⟨k2, hk2⟩ := va_pl_get (X := []) (f := pF cy S) hA.1
  rw [pAt_5 hA.2] at hk2
  exact va_castY hx hb hown (hts _ h1) (castW hEn hcs) (va_recv hK hW.1 (ci := 6) (q0 := k2) rfl hk2) hdg kk
theorem PW.nd (hW : PW D cy B S H) {dE : Nat} (h : dE < B) : dE ∉ pL S := by
  intro z
  obtain ⟨k0, hk0⟩ := va_pl_get (X := []) (f := pF cy S) z
  have := hW.2.2 k0 _ hk0
  exact absurd h (Nat.not_lt.mpr this)
end L5
/-- kinds of which the reference has cells, and messages, which never change -/
abbrev RK (k : Nat) : Prop := k = 11 ∨ k = 13 ∨ k = 14 ∨ k = 15 ∨ k = 6
/-- a method of the class: nothing of the reference's kinds has changed but what the root has heard -/
def CF (S S2 : PS) (y : Nat → Nat) : Prop := Fr S S2 (fun b => ¬ RK (pK S b) ∨ b = y 7)
theorem CF.rf {S : PS} {y : Nat → Nat} : CF S S y := Fr.rf
theorem Ext.kind {S T : PS} (h : Ext S T) {b : Nat} (hb : b ∈ pL S) : pK T b = pK S b := (h (pK S b) b ⟨hb, rfl⟩).2
theorem CF.tr {S S2 S3 : PS} {y : Nat → Nat} (h : CF S S2 y) (k : CF S2 S3 y) : CF S S3 y := Fr.tr h k (fun b hb z => z.imp (fun u => by rw [h.1.kind hb] at u; exact u) id)
theorem CF.of {S S2 : PS} {y : Nat → Nat} {M : Nat → Prop} (h : Fr S S2 M) (hM : ∀ b, b ∈ pL S → M b → ¬ RK (pK S b)) : CF S S2 y := h.mono (fun b hb z => Or.inl (hM b hb z))
theorem CF.lk {S S2 : PS} {y : Nat → Nat} {M : Nat → Prop} (h : Fr S S2 M) (hM : LK S M) : CF S S2 y := CF.of h (fun b hb z => by rcases hM b hb z with u | u <;> rw [u] <;> decide)
theorem CF.wr {S S2 : PS} {y : Nat → Nat} {k a : Nat} (h : CF S S2 y) (hA : IsAt S2 k a) (hk : ¬ RK k) : Wr S (fun b => ¬ RK (pK S b) ∨ b = y 7) a := by
  by_cases z : a ∈ pL S
  · exact Or.inl (Or.inl (by rw [← h.1.kind z, hA.2]; exact hk))
  · exact Or.inr z
theorem CF.sI {S S2 : PS} {y : Nat → Nat} {f a : Nat} {v : Int32} {k : Nat} (h : CF S S2 y) (hA : IsAt S2 k a) (hk : ¬ RK k) : CF S (sI S2 f a v) y := Fr.sI h (h.wr hA hk)
theorem CF.sJ {S S2 : PS} {y : Nat → Nat} {f a : Nat} {v : Int64} {k : Nat} (h : CF S S2 y) (hA : IsAt S2 k a) (hk : ¬ RK k) : CF S (sJ S2 f a v) y := Fr.sJ h (h.wr hA hk)
theorem CF.sR {S S2 : PS} {y : Nat → Nat} {f a : Nat} {v : Option Nat} {k : Nat} (h : CF S S2 y) (hA : IsAt S2 k a) (hk : ¬ RK k) : CF S (sR S2 f a v) y := Fr.sR h (h.wr hA hk)
theorem CF.tQ {S S2 : PS} {y : Nat → Nat} {a i : Nat} {v : Option Nat} {k : Nat} (h : CF S S2 y) (hA : IsAt S2 k a) (hk : ¬ RK k) : CF S (tQ S2 a i v) y := Fr.tQ h (h.wr hA hk)
theorem CF.t7 {S S2 : PS} {y : Nat → Nat} {i : Nat} {v : Int32} (h : CF S S2 y) : CF S (tI S2 (y 7) i v) y := Fr.tI h (Or.inl (Or.inr rfl))
theorem CF.nO {S S2 : PS} {y : Nat → Nat} {q k : Nat} (h : CF S S2 y) (hq : q ∉ pL S2) : CF S (nO S2 q k) y := Fr.nO h hq
theorem Fr_sIa {S S2 : PS} {a f : Nat} {v : Int32} (h : Fr S S2 (fun b => b = a)) : Fr S (sI S2 f a v) (fun b => b = a) := Fr.sI h (Or.inl rfl)
theorem CF.msg {S S2 : PS} {y : Nat → Nat} {m : Nat} {a b c d e f g h : Int32} (hF : CF S S2 y) (h7 : IsAt S 13 (y 7)) (z : MsgAt S m a b c d e f g h) : MsgAt S2 m a b c d e f g h := by
  obtain ⟨k, z⟩ := z
  obtain ⟨q, -⟩ := hF.2 m k.1 (fun u => u.elim (fun v => v (by rw [k.2]; decide)) (fun v => absurd v (k.ne h7 (by decide))))
  exact ⟨hF.1 _ _ k, by rw [q]; exact z.1, by rw [q]; exact z.2.1, by rw [q]; exact z.2.2.1, by rw [q]; exact z.2.2.2.1, by rw [q]; exact z.2.2.2.2.1, by rw [q]; exact z.2.2.2.2.2.1, by rw [q]; exact z.2.2.2.2.2.2.1, by rw [q]; exact z.2.2.2.2.2.2.2⟩
set_option maxRecDepth 100000 in
set_option maxHeartbeats 1000000 in
theorem c_X6_init {l : Launch} {D : va_G} {cy : Nat → ClassId} {B : Nat} {s0 : State} {S : PS} {a : Nat} {x1 x2 x3 x4 x5 : Int32} (h : IsAt S 6 a) : KV l yX6_init wsX6_init ({ frames := 1, cells := 0, slots := 0, locals := 12 }) D cy B s0 [.ref a, .int x1, .int x2, .int x3, .int x4, .int x5] S (fun S2 => MsgAt S2 a 0 x1 x2 x3 x5 x4 (-1) 0 ∧ Fr S S2 (fun b => b = a)) 0 0 := by
  refine k_body (own := RX6) (cc := cX6_init) (maxL := 6) (ret := none) rfl (by decide) rfl (Nat.le_of_ble_eq_true rfl) ?_
  intro p e s m below meth c C hml hr hlk hnm hB hW ls hl
  obtain ⟨hx, hb, hts, hown, hK, hEn⟩ := id C
  have hS : va_S (Aw B) s.heap s.heap [] := va_S.rf
  have hinX6 : ∀ w ∈ wsX60, w ∈ wsX6_init := by decide +kernel
  have l9 : Cond.fieldLink RX6 9 "LeaseGates$Message" "kind" "I" ∈ wsX6_init := by decide +kernel
  have l15 : Cond.fieldLink RX6 15 "LeaseGates$Message" "gate" "I" ∈ wsX6_init := by decide +kernel
  have l18 : Cond.fieldLink RX6 18 "LeaseGates$Message" "key" "I" ∈ wsX6_init := by decide +kernel
  have l21 : Cond.fieldLink RX6 21 "LeaseGates$Message" "birth" "I" ∈ wsX6_init := by decide +kernel
  have l24 : Cond.fieldLink RX6 24 "LeaseGates$Message" "tokens" "I" ∈ wsX6_init := by decide +kernel
  have l27 : Cond.fieldLink RX6 27 "LeaseGates$Message" "count" "I" ∈ wsX6_init := by decide +kernel
  have l30 : Cond.fieldLink RX6 30 "LeaseGates$Message" "loan" "I" ∈ wsX6_init := by decide +kernel
  have l33 : Cond.fieldLink RX6 33 "LeaseGates$Message" "loanLength" "I" ∈ wsX6_init := by decide +kernel
  have hl : lv_has ls 6 [(0, .ref a), (1, .int x1), (2, .int x2), (3, .int x3), (4, .int x4), (5, .int x5)] := hl
  refine lv_aload_n hx hb dX6_init_0 rfl (lv_at hl 0 rfl) ?_
  refine W.objInit hx hb hown (hts (.methodLink RX6 3 objectInit) (by decide +kernel)) (hts (.instanceMethod objectInit) (by decide +kernel)) (hts _ (List.mem_of_getElem? (l := wsX6_init) (i := 3) rfl)) rfl (by rw [hml]; exact hl.1) rfl dX6_init_1 (Nat.le_of_ble_eq_true rfl) (Nat.le_of_ble_eq_true rfl) ?_
  refine W.eq (g2 := F0 m 4 ls []) rfl ?_
  refine lv_aload_n hx hb dX6_init_4 rfl (lv_at hl 0 rfl) ?_
  refine lv_iconst (v := 0) hx hb dX6_init_5 (by decide) ?_
  refine p_600 C hinX6 hW hS h l9 hnm rfl dX6_init_6 (fun S1 H locs e1 hW hS => ?_)
  subst e1
  refine lv_aload_n hx hb dX6_init_9 rfl (lv_at hl 0 rfl) ?_
  refine lv_iload_n hx hb dX6_init_10 rfl (lv_at hl 1 rfl) ?_
  refine p_601 C hinX6 hW hS h l15 hnm rfl dX6_init_11 (fun S1 H locs e1 hW hS => ?_)
  subst e1
  refine lv_aload_n hx hb dX6_init_14 rfl (lv_at hl 0 rfl) ?_
  refine lv_iload_n hx hb dX6_init_15 rfl (lv_at hl 2 rfl) ?_
  refine p_602 C hinX6 hW hS h l18 hnm rfl dX6_init_16 (fun S1 H locs e1 hW hS => ?_)
  subst e1
  refine lv_aload_n hx hb dX6_init_19 rfl (lv_at hl 0 rfl) ?_
  refine lv_iload_n hx hb dX6_init_20 rfl (lv_at hl 3 rfl) ?_
  refine p_603 C hinX6 hW hS h l21 hnm rfl dX6_init_21 (fun S1 H locs e1 hW hS => ?_)
  subst e1
  refine lv_aload_n hx hb dX6_init_24 rfl (lv_at hl 0 rfl) ?_
  refine lv_iload hx hb dX6_init_25 (lv_at hl 5 rfl) ?_
  refine p_604 C hinX6 hW hS h l24 hnm rfl dX6_init_27 (fun S1 H locs e1 hW hS => ?_)
  subst e1
  refine lv_aload_n hx hb dX6_init_30 rfl (lv_at hl 0 rfl) ?_
  refine lv_iload hx hb dX6_init_31 (lv_at hl 4 rfl) ?_
  refine p_605 C hinX6 hW hS h l27 hnm rfl dX6_init_33 (fun S1 H locs e1 hW hS => ?_)
  subst e1
  refine lv_aload_n hx hb dX6_init_36 rfl (lv_at hl 0 rfl) ?_
  refine lv_iconst (v := (-1)) hx hb dX6_init_37 (by decide) ?_
  refine p_606 C hinX6 hW hS h l30 hnm rfl dX6_init_38 (fun S1 H locs e1 hW hS => ?_)
  subst e1
  refine lv_aload_n hx hb dX6_init_41 rfl (lv_at hl 0 rfl) ?_
  refine lv_iconst (v := 0) hx hb dX6_init_42 (by decide) ?_
  refine p_607 C hinX6 hW hS h l33 hnm rfl dX6_init_43 (fun S1 H locs e1 hW hS => ?_)
  subst e1
  exact k_vret C hr hlk hW hS hB ⟨⟨h, by simp [sI_s, sI_f], by simp [sI_s, sI_f], by simp [sI_s, sI_f], by simp [sI_s, sI_f], by simp [sI_s, sI_f], by simp [sI_s, sI_f], by simp [sI_s, sI_f], by simp [sI_s, sI_f]⟩, (Fr_sIa (Fr_sIa (Fr_sIa (Fr_sIa (Fr_sIa (Fr_sIa (Fr_sIa (Fr_sIa Fr.rf))))))))⟩ (Nat.le_refl _) (Nat.le_refl _) dX6_init_46
set_option maxRecDepth 100000 in
set_option maxHeartbeats 1000000 in
theorem c_X6_init_ {l : Launch} {D : va_G} {cy : Nat → ClassId} {B : Nat} {s0 : State} {S : PS} {a b : Nat} {x0 x1 x2 x3 x4 x5 x6 x7 z1 z2 z3 : Int32} (h : IsAt S 6 a) (hb2 : MsgAt S b x0 x1 x2 x3 x4 x5 x6 x7) : KV l yX6_init_ wsX6_init_ ({ frames := 1, cells := 0, slots := 0, locals := 12 }) D cy B s0 [.ref a, .ref b, .int z1, .int z2, .int z3] S (fun S2 => MsgAt S2 a 1 x1 x2 x3 z1 x5 z2 z3 ∧ Fr S S2 (fun b => b = a)) 0 0 := by
  refine k_body (own := RX6) (cc := cX6_init_) (maxL := 5) (ret := none) rfl (by decide) rfl (Nat.le_of_ble_eq_true rfl) ?_
  intro p e s m below meth c C hml hr hlk hnm hB hW ls hl
  obtain ⟨hx, hb, hts, hown, hK, hEn⟩ := id C
  have hS : va_S (Aw B) s.heap s.heap [] := va_S.rf
  have hinX6 : ∀ w ∈ wsX60, w ∈ wsX6_init_ := by decide +kernel
  have l9 : Cond.fieldLink RX6 9 "LeaseGates$Message" "kind" "I" ∈ wsX6_init_ := by decide +kernel
  have l15 : Cond.fieldLink RX6 15 "LeaseGates$Message" "gate" "I" ∈ wsX6_init_ := by decide +kernel
  have l18 : Cond.fieldLink RX6 18 "LeaseGates$Message" "key" "I" ∈ wsX6_init_ := by decide +kernel
  have l21 : Cond.fieldLink RX6 21 "LeaseGates$Message" "birth" "I" ∈ wsX6_init_ := by decide +kernel
  have l24 : Cond.fieldLink RX6 24 "LeaseGates$Message" "tokens" "I" ∈ wsX6_init_ := by decide +kernel
  have l27 : Cond.fieldLink RX6 27 "LeaseGates$Message" "count" "I" ∈ wsX6_init_ := by decide +kernel
  have l30 : Cond.fieldLink RX6 30 "LeaseGates$Message" "loan" "I" ∈ wsX6_init_ := by decide +kernel
  have l33 : Cond.fieldLink RX6 33 "LeaseGates$Message" "loanLength" "I" ∈ wsX6_init_ := by decide +kernel
  have hl : lv_has ls 5 [(0, .ref a), (1, .ref b), (2, .int z1), (3, .int z2), (4, .int z3)] := hl
  refine lv_aload_n hx hb dX6_init__0 rfl (lv_at hl 0 rfl) ?_
  refine W.objInit hx hb hown (hts (.methodLink RX6 3 objectInit) (by decide +kernel)) (hts (.instanceMethod objectInit) (by decide +kernel)) (hts _ (List.mem_of_getElem? (l := wsX6_init_) (i := 3) rfl)) rfl (by rw [hml]; exact hl.1) rfl dX6_init__1 (Nat.le_of_ble_eq_true rfl) (Nat.le_of_ble_eq_true rfl) ?_
  refine W.eq (g2 := F0 m 4 ls []) rfl ?_
  refine lv_aload_n hx hb dX6_init__4 rfl (lv_at hl 0 rfl) ?_
  refine lv_iconst (v := 1) hx hb dX6_init__5 (by decide) ?_
  refine p_600 C hinX6 hW hS h l9 hnm rfl dX6_init__6 (fun S1 H locs e1 hW hS => ?_)
  subst e1
  refine lv_aload_n hx hb dX6_init__9 rfl (lv_at hl 0 rfl) ?_
  refine lv_aload_n hx hb dX6_init__10 rfl (lv_at hl 1 rfl) ?_
  refine g_601 C hinX6 hW hb2.1 l15 dX6_init__11 ?_
  refine top_i (show fI (sI S 600 a 1) 601 b = x1 from hb2.2.2.1) ?_
  refine p_601 C hinX6 hW hS h l15 hnm rfl dX6_init__14 (fun S1 H locs e1 hW hS => ?_)
  subst e1
  refine lv_aload_n hx hb dX6_init__17 rfl (lv_at hl 0 rfl) ?_
  refine lv_aload_n hx hb dX6_init__18 rfl (lv_at hl 1 rfl) ?_
  refine g_602 C hinX6 hW hb2.1 l18 dX6_init__19 ?_
  refine top_i (show fI (sI (sI S 600 a 1) 601 a x1) 602 b = x2 from hb2.2.2.2.1) ?_
  refine p_602 C hinX6 hW hS h l18 hnm rfl dX6_init__22 (fun S1 H locs e1 hW hS => ?_)
  subst e1
  refine lv_aload_n hx hb dX6_init__25 rfl (lv_at hl 0 rfl) ?_
  refine lv_aload_n hx hb dX6_init__26 rfl (lv_at hl 1 rfl) ?_
  refine g_603 C hinX6 hW hb2.1 l21 dX6_init__27 ?_
  refine top_i (show fI (sI (sI (sI S 600 a 1) 601 a x1) 602 a x2) 603 b = x3 from hb2.2.2.2.2.1) ?_
  refine p_603 C hinX6 hW hS h l21 hnm rfl dX6_init__30 (fun S1 H locs e1 hW hS => ?_)
  subst e1
  refine lv_aload_n hx hb dX6_init__33 rfl (lv_at hl 0 rfl) ?_
  refine lv_iload_n hx hb dX6_init__34 rfl (lv_at hl 2 rfl) ?_
  refine p_604 C hinX6 hW hS h l24 hnm rfl dX6_init__35 (fun S1 H locs e1 hW hS => ?_)
  subst e1
  refine lv_aload_n hx hb dX6_init__38 rfl (lv_at hl 0 rfl) ?_
  refine lv_aload_n hx hb dX6_init__39 rfl (lv_at hl 1 rfl) ?_
  refine g_605 C hinX6 hW hb2.1 l27 dX6_init__40 ?_
  refine top_i (show fI (sI (sI (sI (sI (sI S 600 a 1) 601 a x1) 602 a x2) 603 a x3) 604 a z1) 605 b = x5 from hb2.2.2.2.2.2.2.1) ?_
  refine p_605 C hinX6 hW hS h l27 hnm rfl dX6_init__43 (fun S1 H locs e1 hW hS => ?_)
  subst e1
  refine lv_aload_n hx hb dX6_init__46 rfl (lv_at hl 0 rfl) ?_
  refine lv_iload_n hx hb dX6_init__47 rfl (lv_at hl 3 rfl) ?_
  refine p_606 C hinX6 hW hS h l30 hnm rfl dX6_init__48 (fun S1 H locs e1 hW hS => ?_)
  subst e1
  refine lv_aload_n hx hb dX6_init__51 rfl (lv_at hl 0 rfl) ?_
  refine lv_iload hx hb dX6_init__52 (lv_at hl 4 rfl) ?_
  refine p_607 C hinX6 hW hS h l33 hnm rfl dX6_init__54 (fun S1 H locs e1 hW hS => ?_)
  subst e1
  exact k_vret C hr hlk hW hS hB ⟨⟨h, by simp [sI_s, sI_f], by simp [sI_s, sI_f], by simp [sI_s, sI_f], by simp [sI_s, sI_f], by simp [sI_s, sI_f], by simp [sI_s, sI_f], by simp [sI_s, sI_f], by simp [sI_s, sI_f]⟩, (Fr_sIa (Fr_sIa (Fr_sIa (Fr_sIa (Fr_sIa (Fr_sIa (Fr_sIa (Fr_sIa Fr.rf))))))))⟩ (Nat.le_refl _) (Nat.le_refl _) dX6_init__57
set_option maxRecDepth 100000 in
set_option maxHeartbeats 1000000 in
theorem c_X6_init__ {l : Launch} {D : va_G} {cy : Nat → ClassId} {B : Nat} {s0 : State} {S : PS} {a b : Nat} {x1 x2 x3 x4 x6 : Int32} (h : IsAt S 6 a) (hb2 : IsAt S 4 b) (e3 : fI S 403 b = x4) (e0 : fI S 400 b = x6) : KV l yX6_init__ wsX6_init__ ({ frames := 1, cells := 0, slots := 0, locals := 12 }) D cy B s0 [.ref a, .int x1, .int x2, .int x3, .ref b] S (fun S2 => MsgAt S2 a 2 x1 x2 x3 x4 (-1) x6 0 ∧ Fr S S2 (fun b => b = a)) 0 0 := by
  refine k_body (own := RX6) (cc := cX6_init__) (maxL := 5) (ret := none) rfl (by decide) rfl (Nat.le_of_ble_eq_true rfl) ?_
  intro p e s m below meth c C hml hr hlk hnm hB hW ls hl
  obtain ⟨hx, hb, hts, hown, hK, hEn⟩ := id C
  have hS : va_S (Aw B) s.heap s.heap [] := va_S.rf
  have hinX4 : ∀ w ∈ wsX40, w ∈ wsX6_init__ := by decide +kernel
  have hinX6 : ∀ w ∈ wsX60, w ∈ wsX6_init__ := by decide +kernel
  have l9 : Cond.fieldLink RX6 9 "LeaseGates$Message" "kind" "I" ∈ wsX6_init__ := by decide +kernel
  have l15 : Cond.fieldLink RX6 15 "LeaseGates$Message" "gate" "I" ∈ wsX6_init__ := by decide +kernel
  have l18 : Cond.fieldLink RX6 18 "LeaseGates$Message" "key" "I" ∈ wsX6_init__ := by decide +kernel
  have l21 : Cond.fieldLink RX6 21 "LeaseGates$Message" "birth" "I" ∈ wsX6_init__ := by decide +kernel
  have l24 : Cond.fieldLink RX6 24 "LeaseGates$Message" "tokens" "I" ∈ wsX6_init__ := by decide +kernel
  have l27 : Cond.fieldLink RX6 27 "LeaseGates$Message" "count" "I" ∈ wsX6_init__ := by decide +kernel
  have l30 : Cond.fieldLink RX6 30 "LeaseGates$Message" "loan" "I" ∈ wsX6_init__ := by decide +kernel
  have l33 : Cond.fieldLink RX6 33 "LeaseGates$Message" "loanLength" "I" ∈ wsX6_init__ := by decide +kernel
  have l36 : Cond.fieldLink RX6 36 "LeaseGates$Hold" "tokens" "I" ∈ wsX6_init__ := by decide +kernel
  have l39 : Cond.fieldLink RX6 39 "LeaseGates$Hold" "loan" "I" ∈ wsX6_init__ := by decide +kernel
  have hl : lv_has ls 5 [(0, .ref a), (1, .int x1), (2, .int x2), (3, .int x3), (4, .ref b)] := hl
  refine lv_aload_n hx hb dX6_init___0 rfl (lv_at hl 0 rfl) ?_
  refine W.objInit hx hb hown (hts (.methodLink RX6 3 objectInit) (by decide +kernel)) (hts (.instanceMethod objectInit) (by decide +kernel)) (hts _ (List.mem_of_getElem? (l := wsX6_init__) (i := 3) rfl)) rfl (by rw [hml]; exact hl.1) rfl dX6_init___1 (Nat.le_of_ble_eq_true rfl) (Nat.le_of_ble_eq_true rfl) ?_
  refine W.eq (g2 := F0 m 4 ls []) rfl ?_
  refine lv_aload_n hx hb dX6_init___4 rfl (lv_at hl 0 rfl) ?_
  refine lv_iconst (v := 2) hx hb dX6_init___5 (by decide) ?_
  refine p_600 C hinX6 hW hS h l9 hnm rfl dX6_init___6 (fun S1 H locs e1 hW hS => ?_)
  subst e1
  refine lv_aload_n hx hb dX6_init___9 rfl (lv_at hl 0 rfl) ?_
  refine lv_iload_n hx hb dX6_init___10 rfl (lv_at hl 1 rfl) ?_
  refine p_601 C hinX6 hW hS h l15 hnm rfl dX6_init___11 (fun S1 H locs e1 hW hS => ?_)
  subst e1
  refine lv_aload_n hx hb dX6_init___14 rfl (lv_at hl 0 rfl) ?_
  refine lv_iload_n hx hb dX6_init___15 rfl (lv_at hl 2 rfl) ?_
  refine p_602 C hinX6 hW hS h l18 hnm rfl dX6_init___16 (fun S1 H locs e1 hW hS => ?_)
  subst e1
  refine lv_aload_n hx hb dX6_init___19 rfl (lv_at hl 0 rfl) ?_
  refine lv_iload_n hx hb dX6_init___20 rfl (lv_at hl 3 rfl) ?_
  refine p_603 C hinX6 hW hS h l21 hnm rfl dX6_init___21 (fun S1 H locs e1 hW hS => ?_)
  subst e1
  refine lv_aload_n hx hb dX6_init___24 rfl (lv_at hl 0 rfl) ?_
  refine lv_aload hx hb dX6_init___25 (lv_at hl 4 rfl) ?_
  refine g_403 C hinX4 hW hb2 l36 dX6_init___27 ?_
  refine top_i (show fI (sI (sI (sI (sI S 600 a 2) 601 a x1) 602 a x2) 603 a x3) 403 b = x4 from e3) ?_
  refine p_604 C hinX6 hW hS h l24 hnm rfl dX6_init___30 (fun S1 H locs e1 hW hS => ?_)
  subst e1
  refine lv_aload_n hx hb dX6_init___33 rfl (lv_at hl 0 rfl) ?_
  refine lv_iconst (v := (-1)) hx hb dX6_init___34 (by decide) ?_
  refine p_605 C hinX6 hW hS h l27 hnm rfl dX6_init___35 (fun S1 H locs e1 hW hS => ?_)
  subst e1
  refine lv_aload_n hx hb dX6_init___38 rfl (lv_at hl 0 rfl) ?_
  refine lv_aload hx hb dX6_init___39 (lv_at hl 4 rfl) ?_
  refine g_400 C hinX4 hW hb2 l39 dX6_init___41 ?_
  refine top_i (show fI (sI (sI (sI (sI (sI (sI S 600 a 2) 601 a x1) 602 a x2) 603 a x3) 604 a x4) 605 a (-1)) 400 b = x6 from e0) ?_
  refine p_606 C hinX6 hW hS h l30 hnm rfl dX6_init___44 (fun S1 H locs e1 hW hS => ?_)
  subst e1
  refine lv_aload_n hx hb dX6_init___47 rfl (lv_at hl 0 rfl) ?_
  refine lv_iconst (v := 0) hx hb dX6_init___48 (by decide) ?_
  refine p_607 C hinX6 hW hS h l33 hnm rfl dX6_init___49 (fun S1 H locs e1 hW hS => ?_)
  subst e1
  exact k_vret C hr hlk hW hS hB ⟨⟨h, by simp [sI_s, sI_f], by simp [sI_s, sI_f], by simp [sI_s, sI_f], by simp [sI_s, sI_f], by simp [sI_s, sI_f], by simp [sI_s, sI_f], by simp [sI_s, sI_f], by simp [sI_s, sI_f]⟩, (Fr_sIa (Fr_sIa (Fr_sIa (Fr_sIa (Fr_sIa (Fr_sIa (Fr_sIa (Fr_sIa Fr.rf))))))))⟩ (Nat.le_refl _) (Nat.le_refl _) dX6_init___52
set_option maxRecDepth 100000 in
set_option maxHeartbeats 1000000 in
theorem c_X4_init {l : Launch} {D : va_G} {cy : Nat → ClassId} {B : Nat} {s0 : State} {S : PS} {a b : Nat} {x0 x1 x2 x3 x4 x5 x6 x7 z1 : Int32} (h : IsAt S 4 a) (hb2 : MsgAt S b x0 x1 x2 x3 x4 x5 x6 x7) : KV l yX4_init wsX4_init ({ frames := 1, cells := 0, slots := 0, locals := 12 }) D cy B s0 [.ref a, .ref b, .int z1] S (fun S2 => (IsAt S2 4 a ∧ fI S2 400 a = x6 ∧ fI S2 401 a = z1 ∧ fI S2 402 a = 998 * x7 / 1000 ∧ fI S2 403 a = x4) ∧ Fr S S2 (fun b => b = a)) 0 0 := by
  refine k_body (own := RX4) (cc := cX4_init) (maxL := 3) (ret := none) rfl (by decide) rfl (Nat.le_of_ble_eq_true rfl) ?_
  intro p e s m below meth c C hml hr hlk hnm hB hW ls hl
  obtain ⟨hx, hb, hts, hown, hK, hEn⟩ := id C
  have hS : va_S (Aw B) s.heap s.heap [] := va_S.rf
  have hinX4 : ∀ w ∈ wsX40, w ∈ wsX4_init := by decide +kernel
  have hinX6 : ∀ w ∈ wsX60, w ∈ wsX4_init := by decide +kernel
  have l7 : Cond.fieldLink RX4 7 "LeaseGates$Message" "loan" "I" ∈ wsX4_init := by decide +kernel
  have l13 : Cond.fieldLink RX4 13 "LeaseGates$Hold" "loan" "I" ∈ wsX4_init := by decide +kernel
  have l16 : Cond.fieldLink RX4 16 "LeaseGates$Hold" "asked" "I" ∈ wsX4_init := by decide +kernel
  have l19 : Cond.fieldLink RX4 19 "LeaseGates$Message" "loanLength" "I" ∈ wsX4_init := by decide +kernel
  have l22 : Cond.fieldLink RX4 22 "LeaseGates$Hold" "span" "I" ∈ wsX4_init := by decide +kernel
  have l25 : Cond.fieldLink RX4 25 "LeaseGates$Message" "tokens" "I" ∈ wsX4_init := by decide +kernel
  have l28 : Cond.fieldLink RX4 28 "LeaseGates$Hold" "tokens" "I" ∈ wsX4_init := by decide +kernel
  have hl : lv_has ls 3 [(0, .ref a), (1, .ref b), (2, .int z1)] := hl
  refine lv_aload_n hx hb dX4_init_0 rfl (lv_at hl 0 rfl) ?_
  refine W.objInit hx hb hown (hts (.methodLink RX4 1 objectInit) (by decide +kernel)) (hts (.instanceMethod objectInit) (by decide +kernel)) (hts _ (List.mem_of_getElem? (l := wsX4_init) (i := 3) rfl)) rfl (by rw [hml]; exact hl.1) rfl dX4_init_1 (Nat.le_of_ble_eq_true rfl) (Nat.le_of_ble_eq_true rfl) ?_
  refine W.eq (g2 := F0 m 4 ls []) rfl ?_
  refine lv_aload_n hx hb dX4_init_4 rfl (lv_at hl 0 rfl) ?_
  refine lv_aload_n hx hb dX4_init_5 rfl (lv_at hl 1 rfl) ?_
  refine g_606 C hinX6 hW hb2.1 l7 dX4_init_6 ?_
  refine top_i (show fI S 606 b = x6 from hb2.2.2.2.2.2.2.2.1) ?_
  refine p_400 C hinX4 hW hS h l13 hnm rfl dX4_init_9 (fun S1 H locs e1 hW hS => ?_)
  subst e1
  refine lv_aload_n hx hb dX4_init_12 rfl (lv_at hl 0 rfl) ?_
  refine lv_iload_n hx hb dX4_init_13 rfl (lv_at hl 2 rfl) ?_
  refine p_401 C hinX4 hW hS h l16 hnm rfl dX4_init_14 (fun S1 H locs e1 hW hS => ?_)
  subst e1
  refine lv_aload_n hx hb dX4_init_17 rfl (lv_at hl 0 rfl) ?_
  refine lv_sipush (v := 998) hx hb dX4_init_18 (by decide) ?_
  refine lv_aload_n hx hb dX4_init_21 rfl (lv_at hl 1 rfl) ?_
  refine g_607 C hinX6 hW hb2.1 l19 dX4_init_22 ?_
  refine top_i (show fI (sI (sI S 400 a x6) 401 a z1) 607 b = x7 from hb2.2.2.2.2.2.2.2.2) ?_
  refine lv_imul hx hb dX4_init_25 ?_
  refine lv_sipush (v := 1000) hx hb dX4_init_26 (by decide) ?_
  refine lv_idiv hx hb dX4_init_29 (by decide) ?_
  refine p_402 C hinX4 hW hS h l22 hnm rfl dX4_init_30 (fun S1 H locs e1 hW hS => ?_)
  subst e1
  refine lv_aload_n hx hb dX4_init_33 rfl (lv_at hl 0 rfl) ?_
  refine lv_aload_n hx hb dX4_init_34 rfl (lv_at hl 1 rfl) ?_
  refine g_604 C hinX6 hW hb2.1 l25 dX4_init_35 ?_
  refine top_i (show fI (sI (sI (sI S 400 a x6) 401 a z1) 402 a ((998 * x7) / 1000)) 604 b = x4 from hb2.2.2.2.2.2.1) ?_
  refine p_403 C hinX4 hW hS h l28 dX4_init_38 (fun S1 H locs e1 hW hS => ?_)
  subst e1
  exact k_vret C hr hlk hW hS hB ⟨⟨h, by simp [sI_s, sI_f], by simp [sI_s, sI_f], by simp [sI_s, sI_f], by simp [sI_s, sI_f]⟩, (Fr_sIa (Fr_sIa (Fr_sIa (Fr_sIa Fr.rf))))⟩ (Nat.le_refl _) (Nat.le_refl _) dX4_init_41
def mPostIf (g : MS) (x0 x1 x2 x3 x4 x5 x6 x7 : Int32) : MS := if mqN g = 300 then g else mPost g (mqN g) x0 x1 x2 x3 x4 x5 x6 x7
set_option maxRecDepth 100000 in
set_option maxHeartbeats 1000000 in
theorem c_X7_send {l : Launch} {D : va_G} {cy : Nat → ClassId} {B : Nat} {s0 : State} {S : PS} {y : Nat → Nat} {dE : Nat} {g : MS} {c0 : CS} {b : Nat} {x0 x1 x2 x3 x4 x5 x6 x7 : Int32} (h : CR S y dE g c0) (hm : MsgOk g) (hM : MsgAt S b x0 x1 x2 x4 x3 x5 x6 x7) : KV l yX7_send wsX7_send ({ frames := 0, cells := 0, slots := 0, locals := 0 }) D cy B s0 [.ref (y 2), .ref b] S (fun S2 => CF S S2 y ∧ CR S2 y dE (mPostIf g x0 x1 x2 x3 x4 x5 x6 x7) c0) 0 0 := by
  refine k_body (own := RX7) (cc := cX7_send) (maxL := 2) (ret := none) rfl (by decide) rfl (Nat.le_of_ble_eq_true rfl) ?_
  intro p e s m below meth c C hml hr hlk hnm hB hW ls hl
  obtain ⟨hx, hb, hts, hown, hK, hEn⟩ := id C
  have hS : va_S (Aw B) s.heap s.heap [] := va_S.rf
  have hinX7 : ∀ w ∈ wsX70, w ∈ wsX7_send := by decide +kernel
  have l11 : Cond.fieldLink RX7 11 "LeaseGates$Post" "slots" "[LLeaseGates$Message;" ∈ wsX7_send := by decide +kernel
  have l17 : Cond.fieldLink RX7 17 "LeaseGates$Post" "count" "I" ∈ wsX7_send := by decide +kernel
  have hl : lv_has ls 2 [(0, .ref (y 2)), (1, .ref b)] := hl
  have hm2 := hm.2
  refine lv_aload_n hx hb dX7_send_0 rfl (lv_at hl 0 rfl) ?_
  refine g_701 C hinX7 hW h.1.lay.k2 l17 dX7_send_1 ?_
  refine top_i (show fI S 701 (y 2) = nI (mqN g) from (h.1.pc.trans hm.1)) ?_
  refine lv_sipush (v := 300) hx hb dX7_send_4 (by decide) ?_
  refine lv_icmp_ge (tgt := 30) hx hb dX7_send_7 (by decide) (fun c_7 => ?_) (fun c_7 => ?_)
  · have q_7 : 300 ≤ (mqN g) := (nI_leI (a := 300) (b := (mqN g)) (by omega) (by omega)).mp c_7
    exact k_vret C hr hlk hW hS hB ⟨CF.rf, by rw [mPostIf, if_pos (by omega)]; exact h⟩ (Nat.le_refl _) (Nat.le_refl _) dX7_send_30
  · have q_7 : ¬ (300 ≤ (mqN g)) := fun z => c_7 ((nI_leI (a := 300) (b := (mqN g)) (by omega) (by omega)).mpr z)
    refine lv_aload_n hx hb dX7_send_10 rfl (lv_at hl 0 rfl) ?_
    refine g_700 C hinX7 hW h.1.lay.k2 h.1.lay.r700 l11 dX7_send_11 ?_
    refine lv_aload_n hx hb dX7_send_14 rfl (lv_at hl 0 rfl) ?_
    refine g_701 C hinX7 hW h.1.lay.k2 l17 dX7_send_15 ?_
    refine top_i (show fI S 701 (y 2) = nI (mqN g) from (h.1.pc.trans hm.1)) ?_
    refine lv_aload_n hx hb dX7_send_18 rfl (lv_at hl 1 rfl) ?_
    refine a_Messagestore C hW hS (j := (mqN g)) h.1.lay.k4 h.1.lay.n4 rfl (by omega) (by omega) hM.1 dX7_send_19 (fun S1 H locs e1 hW hS => ?_)
    subst e1
    refine lv_aload_n hx hb dX7_send_20 rfl (lv_at hl 0 rfl) ?_
    refine lv_dup hx hb dX7_send_21 rfl ?_
    refine g_701 C hinX7 hW h.1.lay.k2 l17 dX7_send_22 ?_
    refine top_i (show fI (tQ S (y 4) (mqN g) (some b)) 701 (y 2) = nI (mqN g) from (h.1.pc.trans hm.1)) ?_
    refine lv_iconst (v := 1) hx hb dX7_send_25 (by decide) ?_
    refine lv_iadd hx hb dX7_send_26 ?_
    refine top_i (show (nI (mqN g)) + 1 = nI ((mqN g) + 1) from nI_add (mqN g) 1) ?_
    refine p_701 C hinX7 hW hS h.1.lay.k2 l17 dX7_send_27 (fun S1 H locs e1 hW hS => ?_)
    subst e1
    exact k_vret C hr hlk hW hS hB ⟨(CF.rf.tQ h.1.lay.k4 (by decide)).sI (k := 7) h.1.lay.k2 (by decide), by rw [mPostIf, if_neg (by omega)]; exact h.post rfl (by omega) hM⟩ (Nat.le_refl _) (Nat.le_refl _) dX7_send_30
set_option maxRecDepth 100000 in
set_option maxHeartbeats 1000000 in
theorem c_X7_discard {l : Launch} {D : va_G} {cy : Nat → ClassId} {B : Nat} {s0 : State} {S : PS} {y : Nat → Nat} {dE : Nat} {g : MS} {c0 : CS} {q : Nat} (h : CR S y dE g c0) (hm : MsgOk g) (hq : q < mqN g) : KV l yX7_discard wsX7_discard ({ frames := 0, cells := 0, slots := 0, locals := 0 }) D cy B s0 [.ref (y 2), .int (nI q)] S (fun S2 => CF S S2 y ∧ CR S2 y dE (iI g 33 q 0) c0) 0 0 := by
  refine k_body (own := RX7) (cc := cX7_discard) (maxL := 2) (ret := none) rfl (by decide) rfl (Nat.le_of_ble_eq_true rfl) ?_
  intro p e s m below meth c C hml hr hlk hnm hB hW ls hl
  obtain ⟨hx, hb, hts, hown, hK, hEn⟩ := id C
  have hS : va_S (Aw B) s.heap s.heap [] := va_S.rf
  have hinX7 : ∀ w ∈ wsX70, w ∈ wsX7_discard := by decide +kernel
  have l11 : Cond.fieldLink RX7 11 "LeaseGates$Post" "slots" "[LLeaseGates$Message;" ∈ wsX7_discard := by decide +kernel
  have l17 : Cond.fieldLink RX7 17 "LeaseGates$Post" "count" "I" ∈ wsX7_discard := by decide +kernel
  have hl : lv_has ls 2 [(0, .ref (y 2)), (1, .int (nI q))] := hl
  have hm2 := hm.2
  refine lv_iload_n hx hb dX7_discard_0 rfl (lv_at hl 1 rfl) ?_
  refine lv_if_lt (tgt := 19) hx hb dX7_discard_1 (by decide) (fun c_1 => absurd c_1 (nI_pos (by omega))) (fun c_1 => ?_)
  have q_1 : ¬ (q < 0) := fun z => c_1 ((nI_ltI (a := q) (b := 0) (by omega) (by omega)).mpr z)
  refine lv_iload_n hx hb dX7_discard_4 rfl (lv_at hl 1 rfl) ?_
  refine lv_aload_n hx hb dX7_discard_5 rfl (lv_at hl 0 rfl) ?_
  refine g_701 C hinX7 hW h.1.lay.k2 l17 dX7_discard_6 ?_
  refine top_i (show fI S 701 (y 2) = nI (mqN g) from (h.1.pc.trans hm.1)) ?_
  refine lv_icmp_ge (tgt := 19) hx hb dX7_discard_9 (by decide) (fun c_9 => absurd ((nI_leI (by omega) (by omega)).mp c_9) (by omega)) (fun c_9 => ?_)
  have q_9 : ¬ ((mqN g) ≤ q) := fun z => c_9 ((nI_leI (a := (mqN g)) (b := q) (by omega) (by omega)).mpr z)
  refine lv_aload_n hx hb dX7_discard_12 rfl (lv_at hl 0 rfl) ?_
  refine g_700 C hinX7 hW h.1.lay.k2 h.1.lay.r700 l11 dX7_discard_13 ?_
  refine lv_iload_n hx hb dX7_discard_16 rfl (lv_at hl 1 rfl) ?_
  refine lv_null hx hb dX7_discard_17 ?_
  refine a_MessagestoreN C hW hS (j := q) h.1.lay.k4 h.1.lay.n4 rfl (by omega) (by omega) dX7_discard_18 (fun S1 H locs e1 hW hS => ?_)
  subst e1
  exact k_vret C hr hlk hW hS hB ⟨CF.rf.tQ h.1.lay.k4 (by decide), h.drop⟩ (Nat.le_refl _) (Nat.le_refl _) dX7_discard_19
set_option maxRecDepth 100000 in
set_option maxHeartbeats 1000000 in
theorem c_X7_find {l : Launch} {D : va_G} {cy : Nat → ClassId} {B : Nat} {s0 : State} {S : PS} {y : Nat → Nat} {dE : Nat} {g : MS} {c0 : CS} {q b : Nat} (h : CR S y dE g c0) (hm : MsgOk g) (hq : q < mqN g) (hz : aQ S (y 4) q = some b) : KQ l yX7_find wsX7_find ({ frames := 0, cells := 0, slots := 0, locals := 0 }) D cy B s0 [.ref (y 2), .int (nI q)] S (fun r S2 => S2 = S ∧ r = some b) 0 0 := by
  refine k_body (own := RX7) (cc := cX7_find) (maxL := 2) (ret := (some (.object "LeaseGates$Message"))) rfl (by decide) rfl (Nat.le_of_ble_eq_true rfl) ?_
  intro p e s m below meth c C hml hr hlk hnm hB hW ls hl
  obtain ⟨hx, hb, hts, hown, hK, hEn⟩ := id C
  have hS : va_S (Aw B) s.heap s.heap [] := va_S.rf
  have hinX7 : ∀ w ∈ wsX70, w ∈ wsX7_find := by decide +kernel
  have l11 : Cond.fieldLink RX7 11 "LeaseGates$Post" "slots" "[LLeaseGates$Message;" ∈ wsX7_find := by decide +kernel
  have l17 : Cond.fieldLink RX7 17 "LeaseGates$Post" "count" "I" ∈ wsX7_find := by decide +kernel
  have hl : lv_has ls 2 [(0, .ref (y 2)), (1, .int (nI q))] := hl
  have hm2 := hm.2
  refine lv_iload_n hx hb dX7_find_0 rfl (lv_at hl 1 rfl) ?_
  refine lv_if_lt (tgt := 21) hx hb dX7_find_1 (by decide) (fun c_1 => absurd c_1 (nI_pos (by omega))) (fun c_1 => ?_)
  have q_1 : ¬ (q < 0) := fun z => c_1 ((nI_ltI (a := q) (b := 0) (by omega) (by omega)).mpr z)
  refine lv_iload_n hx hb dX7_find_4 rfl (lv_at hl 1 rfl) ?_
  refine lv_aload_n hx hb dX7_find_5 rfl (lv_at hl 0 rfl) ?_
  refine g_701 C hinX7 hW h.1.lay.k2 l17 dX7_find_6 ?_
  refine top_i (show fI S 701 (y 2) = nI (mqN g) from (h.1.pc.trans hm.1)) ?_
  refine lv_icmp_ge (tgt := 21) hx hb dX7_find_9 (by decide) (fun c_9 => absurd ((nI_leI (by omega) (by omega)).mp c_9) (by omega)) (fun c_9 => ?_)
  have q_9 : ¬ ((mqN g) ≤ q) := fun z => c_9 ((nI_leI (a := (mqN g)) (b := q) (by omega) (by omega)).mpr z)
  refine lv_aload_n hx hb dX7_find_12 rfl (lv_at hl 0 rfl) ?_
  refine g_700 C hinX7 hW h.1.lay.k2 h.1.lay.r700 l11 dX7_find_13 ?_
  refine lv_iload_n hx hb dX7_find_16 rfl (lv_at hl 1 rfl) ?_
  refine a_Messageload C hW (j := q) h.1.lay.k4 h.1.lay.n4 rfl (by omega) (by omega) hz dX7_find_17 ?_
  refine lv_goto (tgt := 22) hx hb dX7_find_18 (by decide) ?_
  exact k_aret C hr hlk hW hS hB ⟨rfl, rfl⟩ (Or.inl ⟨_, rfl⟩) (Nat.le_refl _) (Nat.le_refl _) dX7_find_22
set_option maxRecDepth 100000 in
set_option maxHeartbeats 1000000 in
theorem c_X7_find_n {l : Launch} {D : va_G} {cy : Nat → ClassId} {B : Nat} {s0 : State} {S : PS} {y : Nat → Nat} {dE : Nat} {g : MS} {c0 : CS} {q : Nat} (h : CR S y dE g c0) (hm : MsgOk g) (hq : q < mqN g) (hz : aQ S (y 4) q = none) : KQ l yX7_find wsX7_find ({ frames := 0, cells := 0, slots := 0, locals := 0 }) D cy B s0 [.ref (y 2), .int (nI q)] S (fun r S2 => S2 = S ∧ r = none) 0 0 := by
  refine k_body (own := RX7) (cc := cX7_find) (maxL := 2) (ret := (some (.object "LeaseGates$Message"))) rfl (by decide) rfl (Nat.le_of_ble_eq_true rfl) ?_
  intro p e s m below meth c C hml hr hlk hnm hB hW ls hl
  obtain ⟨hx, hb, hts, hown, hK, hEn⟩ := id C
  have hS : va_S (Aw B) s.heap s.heap [] := va_S.rf
  have hinX7 : ∀ w ∈ wsX70, w ∈ wsX7_find := by decide +kernel
  have l11 : Cond.fieldLink RX7 11 "LeaseGates$Post" "slots" "[LLeaseGates$Message;" ∈ wsX7_find := by decide +kernel
  have l17 : Cond.fieldLink RX7 17 "LeaseGates$Post" "count" "I" ∈ wsX7_find := by decide +kernel
  have hl : lv_has ls 2 [(0, .ref (y 2)), (1, .int (nI q))] := hl
  have hm2 := hm.2
  refine lv_iload_n hx hb dX7_find_0 rfl (lv_at hl 1 rfl) ?_
  refine lv_if_lt (tgt := 21) hx hb dX7_find_1 (by decide) (fun c_1 => absurd c_1 (nI_pos (by omega))) (fun c_1 => ?_)
  have q_1 : ¬ (q < 0) := fun z => c_1 ((nI_ltI (a := q) (b := 0) (by omega) (by omega)).mpr z)
  refine lv_iload_n hx hb dX7_find_4 rfl (lv_at hl 1 rfl) ?_
  refine lv_aload_n hx hb dX7_find_5 rfl (lv_at hl 0 rfl) ?_
  refine g_701 C hinX7 hW h.1.lay.k2 l17 dX7_find_6 ?_
  refine top_i (show fI S 701 (y 2) = nI (mqN g) from (h.1.pc.trans hm.1)) ?_
  refine lv_icmp_ge (tgt := 21) hx hb dX7_find_9 (by decide) (fun c_9 => absurd ((nI_leI (by omega) (by omega)).mp c_9) (by omega)) (fun c_9 => ?_)
  have q_9 : ¬ ((mqN g) ≤ q) := fun z => c_9 ((nI_leI (a := (mqN g)) (b := q) (by omega) (by omega)).mpr z)
  refine lv_aload_n hx hb dX7_find_12 rfl (lv_at hl 0 rfl) ?_
  refine g_700 C hinX7 hW h.1.lay.k2 h.1.lay.r700 l11 dX7_find_13 ?_
  refine lv_iload_n hx hb dX7_find_16 rfl (lv_at hl 1 rfl) ?_
  refine a_MessageloadN C hW (j := q) h.1.lay.k4 h.1.lay.n4 rfl (by omega) (by omega) hz dX7_find_17 ?_
  refine lv_goto (tgt := 22) hx hb dX7_find_18 (by decide) ?_
  exact k_aretN C hr hlk hW hS hB ⟨rfl, rfl⟩ (Or.inl ⟨_, rfl⟩) (Nat.le_refl _) (Nat.le_refl _) dX7_find_22
set_option maxRecDepth 100000 in
set_option maxHeartbeats 1000000 in
theorem c_X7_find_o {l : Launch} {D : va_G} {cy : Nat → ClassId} {B : Nat} {s0 : State} {S : PS} {y : Nat → Nat} {dE : Nat} {g : MS} {c0 : CS} {p0 : Int32} (h : CR S y dE g c0) (hm : MsgOk g) (hz : ¬ (0 ≤ p0 ∧ p0 < nI (mqN g))) : KQ l yX7_find wsX7_find ({ frames := 0, cells := 0, slots := 0, locals := 0 }) D cy B s0 [.ref (y 2), .int p0] S (fun r S2 => S2 = S ∧ r = none) 0 0 := by
  refine k_body (own := RX7) (cc := cX7_find) (maxL := 2) (ret := (some (.object "LeaseGates$Message"))) rfl (by decide) rfl (Nat.le_of_ble_eq_true rfl) ?_
  intro p e s m below meth c C hml hr hlk hnm hB hW ls hl
  obtain ⟨hx, hb, hts, hown, hK, hEn⟩ := id C
  have hS : va_S (Aw B) s.heap s.heap [] := va_S.rf
  have hinX7 : ∀ w ∈ wsX70, w ∈ wsX7_find := by decide +kernel
  have l17 : Cond.fieldLink RX7 17 "LeaseGates$Post" "count" "I" ∈ wsX7_find := by decide +kernel
  have hl : lv_has ls 2 [(0, .ref (y 2)), (1, .int p0)] := hl
  have hm2 := hm.2
  refine lv_iload_n hx hb dX7_find_0 rfl (lv_at hl 1 rfl) ?_
  refine lv_if_lt (tgt := 21) hx hb dX7_find_1 (by decide) (fun c_1 => ?_) (fun c_1 => ?_)
  · refine lv_null hx hb dX7_find_21 ?_
    exact k_aretN C hr hlk hW hS hB ⟨rfl, rfl⟩ (Or.inl ⟨_, rfl⟩) (Nat.le_refl _) (Nat.le_refl _) dX7_find_22
  · refine lv_iload_n hx hb dX7_find_4 rfl (lv_at hl 1 rfl) ?_
    refine lv_aload_n hx hb dX7_find_5 rfl (lv_at hl 0 rfl) ?_
    refine g_701 C hinX7 hW h.1.lay.k2 l17 dX7_find_6 ?_
    refine top_i (show fI S 701 (y 2) = nI (mqN g) from (h.1.pc.trans hm.1)) ?_
    refine lv_icmp_ge (tgt := 21) hx hb dX7_find_9 (by decide) (fun c_9 => ?_) (fun c_9 => absurd ⟨Int32.not_lt.mp c_1, Int32.not_le.mp c_9⟩ hz)
    refine lv_null hx hb dX7_find_21 ?_
    exact k_aretN C hr hlk hW hS hB ⟨rfl, rfl⟩ (Or.inl ⟨_, rfl⟩) (Nat.le_refl _) (Nat.le_refl _) dX7_find_22
