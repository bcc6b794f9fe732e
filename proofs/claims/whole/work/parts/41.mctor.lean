theorem MO.fr {S P S2 : PS} {a : Nat} {t : Nat → Nat} (h : MO P S2 a t) (hn : ∀ j, t j ∉ pL S) (hF : Fr S P (fun x => x = a)) : Fr S S2 (fun x => x = a) := by
  obtain ⟨h1, h2, h3, h4, h5, h6, h7, h8, h9⟩ := h
  refine ⟨fun k b z => ?_, fun b hb hb2 => ?_⟩
  · have := hF.1 k b z
    exact ⟨by rw [h1]; exact this.1, by rw [h2]; exact this.2⟩
  · obtain ⟨q1, q2, q3, q4, q5, q6, q7⟩ := hF.2 b hb hb2
    have nt : ∀ j, b ≠ t j := fun j e => hn j (by rw [← e]; exact hb)
    exact ⟨fun f => (h7 f b hb2).trans (q1 f), fun f => by rw [h4]; exact q2 f, fun f => by rw [h3]; exact q3 f, by rw [h5]; exact q4, (h8 b nt).trans q5, (h9 b nt).trans q6, by rw [h6]; exact q7⟩
set_option maxRecDepth 100000 in
set_option maxHeartbeats 1000000 in
theorem c_X11_init {l : Launch} {D : va_G} {cy : Nat → ClassId} {B : Nat} {s0 : State} {S : PS} {a : Nat} (h : IsAt S 11 a) (hz : Zr S a) : KV l yX11_init wsX11_init ({ frames := 1, cells := 30, slots := 5482, locals := 12 }) D cy B s0 [.ref a] S (fun S2 => ∃ t, MR S2 a t g0 ∧ (∀ j, t j ∉ pL S) ∧ Fr S S2 (fun x => x = a)) 30 5482 := by
  refine k_body (own := RX11) (cc := cX11_init) (maxL := 2) (ret := none) rfl (by decide) rfl (Nat.le_of_ble_eq_true rfl) ?_
  intro p e s m below meth c C hml hr hlk hnm hB hW ls hl
  obtain ⟨hx, hb, hts, hown, hK, hEn⟩ := id C
  have hS : va_S (Aw B) s.heap s.heap [] := va_S.rf
  have hinX11 : ∀ w ∈ wsX110, w ∈ wsX11_init := by decide +kernel
  have l7 : Cond.fieldLink RX11 7 "LeaseGatesModel" "gone" "[J" ∈ wsX11_init := by decide +kernel
  have l13 : Cond.fieldLink RX11 13 "LeaseGatesModel" "speeds" "[I" ∈ wsX11_init := by decide +kernel
  have l17 : Cond.fieldLink RX11 17 "LeaseGatesModel" "rates" "[I" ∈ wsX11_init := by decide +kernel
  have l20 : Cond.fieldLink RX11 20 "LeaseGatesModel" "bursts" "[I" ∈ wsX11_init := by decide +kernel
  have l23 : Cond.fieldLink RX11 23 "LeaseGatesModel" "levels" "[J" ∈ wsX11_init := by decide +kernel
  have l26 : Cond.fieldLink RX11 26 "LeaseGatesModel" "granted" "[I" ∈ wsX11_init := by decide +kernel
  have l29 : Cond.fieldLink RX11 29 "LeaseGatesModel" "loanKey" "[I" ∈ wsX11_init := by decide +kernel
  have l32 : Cond.fieldLink RX11 32 "LeaseGatesModel" "loanTokens" "[I" ∈ wsX11_init := by decide +kernel
  have l35 : Cond.fieldLink RX11 35 "LeaseGatesModel" "loanEnd" "[I" ∈ wsX11_init := by decide +kernel
  have l38 : Cond.fieldLink RX11 38 "LeaseGatesModel" "length" "I" ∈ wsX11_init := by decide +kernel
  have l42 : Cond.fieldLink RX11 42 "LeaseGatesModel" "heard" "[I" ∈ wsX11_init := by decide +kernel
  have l45 : Cond.fieldLink RX11 45 "LeaseGatesModel" "answered" "[I" ∈ wsX11_init := by decide +kernel
  have l48 : Cond.fieldLink RX11 48 "LeaseGatesModel" "lastNumber" "[I" ∈ wsX11_init := by decide +kernel
  have l51 : Cond.fieldLink RX11 51 "LeaseGatesModel" "lastTokens" "[I" ∈ wsX11_init := by decide +kernel
  have l54 : Cond.fieldLink RX11 54 "LeaseGatesModel" "lastLength" "[I" ∈ wsX11_init := by decide +kernel
  have l57 : Cond.fieldLink RX11 57 "LeaseGatesModel" "hasAsked" "[Z" ∈ wsX11_init := by decide +kernel
  have l61 : Cond.fieldLink RX11 61 "LeaseGatesModel" "askedAt" "[I" ∈ wsX11_init := by decide +kernel
  have l64 : Cond.fieldLink RX11 64 "LeaseGatesModel" "weights" "[I" ∈ wsX11_init := by decide +kernel
  have l67 : Cond.fieldLink RX11 67 "LeaseGatesModel" "births" "[I" ∈ wsX11_init := by decide +kernel
  have l70 : Cond.fieldLink RX11 70 "LeaseGatesModel" "demand" "[I" ∈ wsX11_init := by decide +kernel
  have l73 : Cond.fieldLink RX11 73 "LeaseGatesModel" "use" "[I" ∈ wsX11_init := by decide +kernel
  have l76 : Cond.fieldLink RX11 76 "LeaseGatesModel" "counts" "[I" ∈ wsX11_init := by decide +kernel
  have l79 : Cond.fieldLink RX11 79 "LeaseGatesModel" "isOpen" "[Z" ∈ wsX11_init := by decide +kernel
  have l82 : Cond.fieldLink RX11 82 "LeaseGatesModel" "since" "[I" ∈ wsX11_init := by decide +kernel
  have l85 : Cond.fieldLink RX11 85 "LeaseGatesModel" "refusals" "[I" ∈ wsX11_init := by decide +kernel
  have l88 : Cond.fieldLink RX11 88 "LeaseGatesModel" "holder" "[I" ∈ wsX11_init := by decide +kernel
  have l91 : Cond.fieldLink RX11 91 "LeaseGatesModel" "held" "[I" ∈ wsX11_init := by decide +kernel
  have l94 : Cond.fieldLink RX11 94 "LeaseGatesModel" "heldSince" "[I" ∈ wsX11_init := by decide +kernel
  have l97 : Cond.fieldLink RX11 97 "LeaseGatesModel" "heldLength" "[I" ∈ wsX11_init := by decide +kernel
  have l100 : Cond.fieldLink RX11 100 "LeaseGatesModel" "told" "[I" ∈ wsX11_init := by decide +kernel
  have l103 : Cond.fieldLink RX11 103 "LeaseGatesModel" "isThere" "[Z" ∈ wsX11_init := by decide +kernel
  have hl : lv_has ls 2 [(0, .ref a)] := hl
  have hD : MdK S S a (fun _ => 0) [] := md_start h
  have hI : ∀ f, fI S f a = 0 := hz.1
  obtain ⟨t, hD⟩ : ∃ t, MdK S S a t [] := ⟨_, hD⟩
  refine lv_aload_n hx hb dX11_init_0 rfl (lv_at hl 0 rfl) ?_
  refine W.objInit hx hb hown (hts (.methodLink RX11 1 objectInit) (by decide +kernel)) (hts (.instanceMethod objectInit) (by decide +kernel)) (hts _ (List.mem_of_getElem? (l := wsX11_init) (i := 3) rfl)) rfl (by rw [hml]; exact hl.1) rfl dX11_init_1 (Nat.le_of_ble_eq_true rfl) (Nat.le_of_ble_eq_true rfl) ?_
  refine W.eq (g2 := F0 m 4 ls []) rfl ?_
  refine lv_aload_n hx hb dX11_init_4 rfl (lv_at hl 0 rfl) ?_
  refine lv_bipush (v := 7) hx hb dX11_init_5 (by decide) ?_
  refine n_14 C hW hS hB (N := 7) (show Cond.arrayClass .long ∈ wsX11_init by decide +kernel) rfl (by omega) (Nat.le_of_ble_eq_true rfl) (Nat.le_of_ble_eq_true rfl) dX11_init_7 (fun q1 N1 H e2 q1n hW hS => ?_)
  have h1 : IsAt N1 11 a := by rw [e2]; exact nA_ext q1n _ _ hD.1
  refine p_1101 C hinX11 hW hS h1 l7 hnm rfl dX11_init_9 (fun P2 H locs e1 hW hS => ?_)
  replace hI : ∀ f, fI P2 f a = 0 := by rw [e1, e2]; exact hI
  obtain ⟨t, hD⟩ : ∃ t, MdK S P2 a t [(1, 14, 7)] := ⟨_, by rw [e1, e2]; exact md_step (j := 1) hD (by decide) q1n⟩
  clear e1 e2 h1
  refine lv_aload_n hx hb dX11_init_12 rfl (lv_at hl 0 rfl) ?_
  refine lv_bipush (v := 7) hx hb dX11_init_13 (by decide) ?_
  refine n_13 C hW hS hB (N := 7) (show Cond.arrayClass .int ∈ wsX11_init by decide +kernel) rfl (by omega) (Nat.le_of_ble_eq_true rfl) (Nat.le_of_ble_eq_true rfl) dX11_init_15 (fun q3 N3 H e2 q3n hW hS => ?_)
  have h1 : IsAt N3 11 a := by rw [e2]; exact nA_ext q3n _ _ hD.1
  refine p_1102 C hinX11 hW hS h1 l13 hnm rfl dX11_init_17 (fun P4 H locs e1 hW hS => ?_)
  replace hI : ∀ f, fI P4 f a = 0 := by rw [e1, e2]; exact hI
  obtain ⟨t, hD⟩ : ∃ t, MdK S P4 a t [(1, 14, 7), (2, 13, 7)] := ⟨_, by rw [e1, e2]; exact md_step (j := 2) hD (by decide) q3n⟩
  clear e1 e2 h1
  refine lv_aload_n hx hb dX11_init_20 rfl (lv_at hl 0 rfl) ?_
  refine lv_bipush (v := 8) hx hb dX11_init_21 (by decide) ?_
  refine n_13 C hW hS hB (N := 8) (show Cond.arrayClass .int ∈ wsX11_init by decide +kernel) rfl (by omega) (Nat.le_of_ble_eq_true rfl) (Nat.le_of_ble_eq_true rfl) dX11_init_23 (fun q5 N5 H e2 q5n hW hS => ?_)
  have h1 : IsAt N5 11 a := by rw [e2]; exact nA_ext q5n _ _ hD.1
  refine p_1103 C hinX11 hW hS h1 l17 hnm rfl dX11_init_25 (fun P6 H locs e1 hW hS => ?_)
  replace hI : ∀ f, fI P6 f a = 0 := by rw [e1, e2]; exact hI
  obtain ⟨t, hD⟩ : ∃ t, MdK S P6 a t [(1, 14, 7), (2, 13, 7), (3, 13, 8)] := ⟨_, by rw [e1, e2]; exact md_step (j := 3) hD (by decide) q5n⟩
  clear e1 e2 h1
  refine lv_aload_n hx hb dX11_init_28 rfl (lv_at hl 0 rfl) ?_
  refine lv_bipush (v := 8) hx hb dX11_init_29 (by decide) ?_
  refine n_13 C hW hS hB (N := 8) (show Cond.arrayClass .int ∈ wsX11_init by decide +kernel) rfl (by omega) (Nat.le_of_ble_eq_true rfl) (Nat.le_of_ble_eq_true rfl) dX11_init_31 (fun q7 N7 H e2 q7n hW hS => ?_)
  have h1 : IsAt N7 11 a := by rw [e2]; exact nA_ext q7n _ _ hD.1
  refine p_1104 C hinX11 hW hS h1 l20 hnm rfl dX11_init_33 (fun P8 H locs e1 hW hS => ?_)
  replace hI : ∀ f, fI P8 f a = 0 := by rw [e1, e2]; exact hI
  obtain ⟨t, hD⟩ : ∃ t, MdK S P8 a t [(1, 14, 7), (2, 13, 7), (3, 13, 8), (4, 13, 8)] := ⟨_, by rw [e1, e2]; exact md_step (j := 4) hD (by decide) q7n⟩
  clear e1 e2 h1
  refine lv_aload_n hx hb dX11_init_36 rfl (lv_at hl 0 rfl) ?_
  refine lv_bipush (v := 8) hx hb dX11_init_37 (by decide) ?_
  refine n_14 C hW hS hB (N := 8) (show Cond.arrayClass .long ∈ wsX11_init by decide +kernel) rfl (by omega) (Nat.le_of_ble_eq_true rfl) (Nat.le_of_ble_eq_true rfl) dX11_init_39 (fun q9 N9 H e2 q9n hW hS => ?_)
  have h1 : IsAt N9 11 a := by rw [e2]; exact nA_ext q9n _ _ hD.1
  refine p_1105 C hinX11 hW hS h1 l23 hnm rfl dX11_init_41 (fun P10 H locs e1 hW hS => ?_)
  replace hI : ∀ f, fI P10 f a = 0 := by rw [e1, e2]; exact hI
  obtain ⟨t, hD⟩ : ∃ t, MdK S P10 a t [(1, 14, 7), (2, 13, 7), (3, 13, 8), (4, 13, 8), (5, 14, 8)] := ⟨_, by rw [e1, e2]; exact md_step (j := 5) hD (by decide) q9n⟩
  clear e1 e2 h1
  refine lv_aload_n hx hb dX11_init_44 rfl (lv_at hl 0 rfl) ?_
  refine lv_bipush (v := 8) hx hb dX11_init_45 (by decide) ?_
  refine n_13 C hW hS hB (N := 8) (show Cond.arrayClass .int ∈ wsX11_init by decide +kernel) rfl (by omega) (Nat.le_of_ble_eq_true rfl) (Nat.le_of_ble_eq_true rfl) dX11_init_47 (fun q11 N11 H e2 q11n hW hS => ?_)
  have h1 : IsAt N11 11 a := by rw [e2]; exact nA_ext q11n _ _ hD.1
  refine p_1106 C hinX11 hW hS h1 l26 hnm rfl dX11_init_49 (fun P12 H locs e1 hW hS => ?_)
  replace hI : ∀ f, fI P12 f a = 0 := by rw [e1, e2]; exact hI
  obtain ⟨t, hD⟩ : ∃ t, MdK S P12 a t [(1, 14, 7), (2, 13, 7), (3, 13, 8), (4, 13, 8), (5, 14, 8), (6, 13, 8)] := ⟨_, by rw [e1, e2]; exact md_step (j := 6) hD (by decide) q11n⟩
  clear e1 e2 h1
  refine lv_aload_n hx hb dX11_init_52 rfl (lv_at hl 0 rfl) ?_
  refine lv_sipush (v := 300) hx hb dX11_init_53 (by decide) ?_
  refine n_13 C hW hS hB (N := 300) (show Cond.arrayClass .int ∈ wsX11_init by decide +kernel) rfl (by omega) (Nat.le_of_ble_eq_true rfl) (Nat.le_of_ble_eq_true rfl) dX11_init_56 (fun q13 N13 H e2 q13n hW hS => ?_)
  have h1 : IsAt N13 11 a := by rw [e2]; exact nA_ext q13n _ _ hD.1
  refine p_1108 C hinX11 hW hS h1 l29 hnm rfl dX11_init_58 (fun P14 H locs e1 hW hS => ?_)
  replace hI : ∀ f, fI P14 f a = 0 := by rw [e1, e2]; exact hI
  obtain ⟨t, hD⟩ : ∃ t, MdK S P14 a t [(1, 14, 7), (2, 13, 7), (3, 13, 8), (4, 13, 8), (5, 14, 8), (6, 13, 8), (8, 13, 300)] := ⟨_, by rw [e1, e2]; exact md_step (j := 8) hD (by decide) q13n⟩
  clear e1 e2 h1
  refine lv_aload_n hx hb dX11_init_61 rfl (lv_at hl 0 rfl) ?_
  refine lv_sipush (v := 300) hx hb dX11_init_62 (by decide) ?_
  refine n_13 C hW hS hB (N := 300) (show Cond.arrayClass .int ∈ wsX11_init by decide +kernel) rfl (by omega) (Nat.le_of_ble_eq_true rfl) (Nat.le_of_ble_eq_true rfl) dX11_init_65 (fun q15 N15 H e2 q15n hW hS => ?_)
  have h1 : IsAt N15 11 a := by rw [e2]; exact nA_ext q15n _ _ hD.1
  refine p_1109 C hinX11 hW hS h1 l32 hnm rfl dX11_init_67 (fun P16 H locs e1 hW hS => ?_)
  replace hI : ∀ f, fI P16 f a = 0 := by rw [e1, e2]; exact hI
  obtain ⟨t, hD⟩ : ∃ t, MdK S P16 a t [(1, 14, 7), (2, 13, 7), (3, 13, 8), (4, 13, 8), (5, 14, 8), (6, 13, 8), (8, 13, 300), (9, 13, 300)] := ⟨_, by rw [e1, e2]; exact md_step (j := 9) hD (by decide) q15n⟩
  clear e1 e2 h1
  refine lv_aload_n hx hb dX11_init_70 rfl (lv_at hl 0 rfl) ?_
  refine lv_sipush (v := 300) hx hb dX11_init_71 (by decide) ?_
  refine n_13 C hW hS hB (N := 300) (show Cond.arrayClass .int ∈ wsX11_init by decide +kernel) rfl (by omega) (Nat.le_of_ble_eq_true rfl) (Nat.le_of_ble_eq_true rfl) dX11_init_74 (fun q17 N17 H e2 q17n hW hS => ?_)
  have h1 : IsAt N17 11 a := by rw [e2]; exact nA_ext q17n _ _ hD.1
  refine p_1110 C hinX11 hW hS h1 l35 hnm rfl dX11_init_76 (fun P18 H locs e1 hW hS => ?_)
  replace hI : ∀ f, fI P18 f a = 0 := by rw [e1, e2]; exact hI
  obtain ⟨t, hD⟩ : ∃ t, MdK S P18 a t [(1, 14, 7), (2, 13, 7), (3, 13, 8), (4, 13, 8), (5, 14, 8), (6, 13, 8), (8, 13, 300), (9, 13, 300), (10, 13, 300)] := ⟨_, by rw [e1, e2]; exact md_step (j := 10) hD (by decide) q17n⟩
  clear e1 e2 h1
  refine lv_aload_n hx hb dX11_init_79 rfl (lv_at hl 0 rfl) ?_
  refine lv_sipush (v := 2000) hx hb dX11_init_80 (by decide) ?_
  refine p_1111 C hinX11 hW hS hD.1 l38 dX11_init_83 (fun P19 H locs e1 hW hS => ?_)
  replace hD : MdK S P19 a t [(1, 14, 7), (2, 13, 7), (3, 13, 8), (4, 13, 8), (5, 14, 8), (6, 13, 8), (8, 13, 300), (9, 13, 300), (10, 13, 300)] := by rw [e1]; exact md_int hD
  replace hI : ∀ f, fI P19 f a = gZ.2.2 f := fun f => by
    rw [e1]
    by_cases z : f = 1111
    · subst z; exact sI_s
    · rw [sI_f z, hI f]; show (0 : Int32) = if f = 1111 then 2000 else 0; rw [if_neg z]
  clear e1
  refine lv_aload_n hx hb dX11_init_86 rfl (lv_at hl 0 rfl) ?_
  refine lv_bipush (v := 6) hx hb dX11_init_87 (by decide) ?_
  refine n_13 C hW hS hB (N := 6) (show Cond.arrayClass .int ∈ wsX11_init by decide +kernel) rfl (by omega) (Nat.le_of_ble_eq_true rfl) (Nat.le_of_ble_eq_true rfl) dX11_init_89 (fun q20 N20 H e2 q20n hW hS => ?_)
  have h1 : IsAt N20 11 a := by rw [e2]; exact nA_ext q20n _ _ hD.1
  refine p_1112 C hinX11 hW hS h1 l42 hnm rfl dX11_init_91 (fun P21 H locs e1 hW hS => ?_)
  replace hI : ∀ f, fI P21 f a = gZ.2.2 f := by rw [e1, e2]; exact hI
  obtain ⟨t, hD⟩ : ∃ t, MdK S P21 a t [(1, 14, 7), (2, 13, 7), (3, 13, 8), (4, 13, 8), (5, 14, 8), (6, 13, 8), (8, 13, 300), (9, 13, 300), (10, 13, 300), (12, 13, 6)] := ⟨_, by rw [e1, e2]; exact md_step (j := 12) hD (by decide) q20n⟩
  clear e1 e2 h1
  refine lv_aload_n hx hb dX11_init_94 rfl (lv_at hl 0 rfl) ?_
  refine lv_bipush (v := 48) hx hb dX11_init_95 (by decide) ?_
  refine n_13 C hW hS hB (N := 48) (show Cond.arrayClass .int ∈ wsX11_init by decide +kernel) rfl (by omega) (Nat.le_of_ble_eq_true rfl) (Nat.le_of_ble_eq_true rfl) dX11_init_97 (fun q22 N22 H e2 q22n hW hS => ?_)
  have h1 : IsAt N22 11 a := by rw [e2]; exact nA_ext q22n _ _ hD.1
  refine p_1113 C hinX11 hW hS h1 l45 hnm rfl dX11_init_99 (fun P23 H locs e1 hW hS => ?_)
  replace hI : ∀ f, fI P23 f a = gZ.2.2 f := by rw [e1, e2]; exact hI
  obtain ⟨t, hD⟩ : ∃ t, MdK S P23 a t [(1, 14, 7), (2, 13, 7), (3, 13, 8), (4, 13, 8), (5, 14, 8), (6, 13, 8), (8, 13, 300), (9, 13, 300), (10, 13, 300), (12, 13, 6), (13, 13, 48)] := ⟨_, by rw [e1, e2]; exact md_step (j := 13) hD (by decide) q22n⟩
  clear e1 e2 h1
  refine lv_aload_n hx hb dX11_init_102 rfl (lv_at hl 0 rfl) ?_
  refine lv_bipush (v := 48) hx hb dX11_init_103 (by decide) ?_
  refine n_13 C hW hS hB (N := 48) (show Cond.arrayClass .int ∈ wsX11_init by decide +kernel) rfl (by omega) (Nat.le_of_ble_eq_true rfl) (Nat.le_of_ble_eq_true rfl) dX11_init_105 (fun q24 N24 H e2 q24n hW hS => ?_)
  have h1 : IsAt N24 11 a := by rw [e2]; exact nA_ext q24n _ _ hD.1
  refine p_1114 C hinX11 hW hS h1 l48 hnm rfl dX11_init_107 (fun P25 H locs e1 hW hS => ?_)
  replace hI : ∀ f, fI P25 f a = gZ.2.2 f := by rw [e1, e2]; exact hI
  obtain ⟨t, hD⟩ : ∃ t, MdK S P25 a t [(1, 14, 7), (2, 13, 7), (3, 13, 8), (4, 13, 8), (5, 14, 8), (6, 13, 8), (8, 13, 300), (9, 13, 300), (10, 13, 300), (12, 13, 6), (13, 13, 48), (14, 13, 48)] := ⟨_, by rw [e1, e2]; exact md_step (j := 14) hD (by decide) q24n⟩
  clear e1 e2 h1
  refine lv_aload_n hx hb dX11_init_110 rfl (lv_at hl 0 rfl) ?_
  refine lv_bipush (v := 48) hx hb dX11_init_111 (by decide) ?_
  refine n_13 C hW hS hB (N := 48) (show Cond.arrayClass .int ∈ wsX11_init by decide +kernel) rfl (by omega) (Nat.le_of_ble_eq_true rfl) (Nat.le_of_ble_eq_true rfl) dX11_init_113 (fun q26 N26 H e2 q26n hW hS => ?_)
  have h1 : IsAt N26 11 a := by rw [e2]; exact nA_ext q26n _ _ hD.1
  refine p_1115 C hinX11 hW hS h1 l51 hnm rfl dX11_init_115 (fun P27 H locs e1 hW hS => ?_)
  replace hI : ∀ f, fI P27 f a = gZ.2.2 f := by rw [e1, e2]; exact hI
  obtain ⟨t, hD⟩ : ∃ t, MdK S P27 a t [(1, 14, 7), (2, 13, 7), (3, 13, 8), (4, 13, 8), (5, 14, 8), (6, 13, 8), (8, 13, 300), (9, 13, 300), (10, 13, 300), (12, 13, 6), (13, 13, 48), (14, 13, 48), (15, 13, 48)] := ⟨_, by rw [e1, e2]; exact md_step (j := 15) hD (by decide) q26n⟩
  clear e1 e2 h1
  refine lv_aload_n hx hb dX11_init_118 rfl (lv_at hl 0 rfl) ?_
  refine lv_bipush (v := 48) hx hb dX11_init_119 (by decide) ?_
  refine n_13 C hW hS hB (N := 48) (show Cond.arrayClass .int ∈ wsX11_init by decide +kernel) rfl (by omega) (Nat.le_of_ble_eq_true rfl) (Nat.le_of_ble_eq_true rfl) dX11_init_121 (fun q28 N28 H e2 q28n hW hS => ?_)
  have h1 : IsAt N28 11 a := by rw [e2]; exact nA_ext q28n _ _ hD.1
  refine p_1116 C hinX11 hW hS h1 l54 hnm rfl dX11_init_123 (fun P29 H locs e1 hW hS => ?_)
  replace hI : ∀ f, fI P29 f a = gZ.2.2 f := by rw [e1, e2]; exact hI
  obtain ⟨t, hD⟩ : ∃ t, MdK S P29 a t [(1, 14, 7), (2, 13, 7), (3, 13, 8), (4, 13, 8), (5, 14, 8), (6, 13, 8), (8, 13, 300), (9, 13, 300), (10, 13, 300), (12, 13, 6), (13, 13, 48), (14, 13, 48), (15, 13, 48), (16, 13, 48)] := ⟨_, by rw [e1, e2]; exact md_step (j := 16) hD (by decide) q28n⟩
  clear e1 e2 h1
  refine lv_aload_n hx hb dX11_init_126 rfl (lv_at hl 0 rfl) ?_
  refine lv_bipush (v := 48) hx hb dX11_init_127 (by decide) ?_
  refine n_15 C hW hS hB (N := 48) (show Cond.arrayClass .boolean ∈ wsX11_init by decide +kernel) rfl (by omega) (Nat.le_of_ble_eq_true rfl) (Nat.le_of_ble_eq_true rfl) dX11_init_129 (fun q30 N30 H e2 q30n hW hS => ?_)
  have h1 : IsAt N30 11 a := by rw [e2]; exact nA_ext q30n _ _ hD.1
  refine p_1117 C hinX11 hW hS h1 l57 hnm rfl dX11_init_131 (fun P31 H locs e1 hW hS => ?_)
  replace hI : ∀ f, fI P31 f a = gZ.2.2 f := by rw [e1, e2]; exact hI
  obtain ⟨t, hD⟩ : ∃ t, MdK S P31 a t [(1, 14, 7), (2, 13, 7), (3, 13, 8), (4, 13, 8), (5, 14, 8), (6, 13, 8), (8, 13, 300), (9, 13, 300), (10, 13, 300), (12, 13, 6), (13, 13, 48), (14, 13, 48), (15, 13, 48), (16, 13, 48), (17, 15, 48)] := ⟨_, by rw [e1, e2]; exact md_step (j := 17) hD (by decide) q30n⟩
  clear e1 e2 h1
  refine lv_aload_n hx hb dX11_init_134 rfl (lv_at hl 0 rfl) ?_
  refine lv_bipush (v := 48) hx hb dX11_init_135 (by decide) ?_
  refine n_13 C hW hS hB (N := 48) (show Cond.arrayClass .int ∈ wsX11_init by decide +kernel) rfl (by omega) (Nat.le_of_ble_eq_true rfl) (Nat.le_of_ble_eq_true rfl) dX11_init_137 (fun q32 N32 H e2 q32n hW hS => ?_)
  have h1 : IsAt N32 11 a := by rw [e2]; exact nA_ext q32n _ _ hD.1
  refine p_1118 C hinX11 hW hS h1 l61 hnm rfl dX11_init_139 (fun P33 H locs e1 hW hS => ?_)
  replace hI : ∀ f, fI P33 f a = gZ.2.2 f := by rw [e1, e2]; exact hI
  obtain ⟨t, hD⟩ : ∃ t, MdK S P33 a t [(1, 14, 7), (2, 13, 7), (3, 13, 8), (4, 13, 8), (5, 14, 8), (6, 13, 8), (8, 13, 300), (9, 13, 300), (10, 13, 300), (12, 13, 6), (13, 13, 48), (14, 13, 48), (15, 13, 48), (16, 13, 48), (17, 15, 48), (18, 13, 48)] := ⟨_, by rw [e1, e2]; exact md_step (j := 18) hD (by decide) q32n⟩
  clear e1 e2 h1
  refine lv_aload_n hx hb dX11_init_142 rfl (lv_at hl 0 rfl) ?_
  refine lv_bipush (v := 48) hx hb dX11_init_143 (by decide) ?_
  refine n_13 C hW hS hB (N := 48) (show Cond.arrayClass .int ∈ wsX11_init by decide +kernel) rfl (by omega) (Nat.le_of_ble_eq_true rfl) (Nat.le_of_ble_eq_true rfl) dX11_init_145 (fun q34 N34 H e2 q34n hW hS => ?_)
  have h1 : IsAt N34 11 a := by rw [e2]; exact nA_ext q34n _ _ hD.1
  refine p_1119 C hinX11 hW hS h1 l64 hnm rfl dX11_init_147 (fun P35 H locs e1 hW hS => ?_)
  replace hI : ∀ f, fI P35 f a = gZ.2.2 f := by rw [e1, e2]; exact hI
  obtain ⟨t, hD⟩ : ∃ t, MdK S P35 a t [(1, 14, 7), (2, 13, 7), (3, 13, 8), (4, 13, 8), (5, 14, 8), (6, 13, 8), (8, 13, 300), (9, 13, 300), (10, 13, 300), (12, 13, 6), (13, 13, 48), (14, 13, 48), (15, 13, 48), (16, 13, 48), (17, 15, 48), (18, 13, 48), (19, 13, 48)] := ⟨_, by rw [e1, e2]; exact md_step (j := 19) hD (by decide) q34n⟩
  clear e1 e2 h1
  refine lv_aload_n hx hb dX11_init_150 rfl (lv_at hl 0 rfl) ?_
  refine lv_bipush (v := 6) hx hb dX11_init_151 (by decide) ?_
  refine n_13 C hW hS hB (N := 6) (show Cond.arrayClass .int ∈ wsX11_init by decide +kernel) rfl (by omega) (Nat.le_of_ble_eq_true rfl) (Nat.le_of_ble_eq_true rfl) dX11_init_153 (fun q36 N36 H e2 q36n hW hS => ?_)
  have h1 : IsAt N36 11 a := by rw [e2]; exact nA_ext q36n _ _ hD.1
  refine p_1120 C hinX11 hW hS h1 l67 hnm rfl dX11_init_155 (fun P37 H locs e1 hW hS => ?_)
  replace hI : ∀ f, fI P37 f a = gZ.2.2 f := by rw [e1, e2]; exact hI
  obtain ⟨t, hD⟩ : ∃ t, MdK S P37 a t [(1, 14, 7), (2, 13, 7), (3, 13, 8), (4, 13, 8), (5, 14, 8), (6, 13, 8), (8, 13, 300), (9, 13, 300), (10, 13, 300), (12, 13, 6), (13, 13, 48), (14, 13, 48), (15, 13, 48), (16, 13, 48), (17, 15, 48), (18, 13, 48), (19, 13, 48), (20, 13, 6)] := ⟨_, by rw [e1, e2]; exact md_step (j := 20) hD (by decide) q36n⟩
  clear e1 e2 h1
  refine lv_aload_n hx hb dX11_init_158 rfl (lv_at hl 0 rfl) ?_
  refine lv_bipush (v := 48) hx hb dX11_init_159 (by decide) ?_
  refine n_13 C hW hS hB (N := 48) (show Cond.arrayClass .int ∈ wsX11_init by decide +kernel) rfl (by omega) (Nat.le_of_ble_eq_true rfl) (Nat.le_of_ble_eq_true rfl) dX11_init_161 (fun q38 N38 H e2 q38n hW hS => ?_)
  have h1 : IsAt N38 11 a := by rw [e2]; exact nA_ext q38n _ _ hD.1
  refine p_1121 C hinX11 hW hS h1 l70 hnm rfl dX11_init_163 (fun P39 H locs e1 hW hS => ?_)
  replace hI : ∀ f, fI P39 f a = gZ.2.2 f := by rw [e1, e2]; exact hI
  obtain ⟨t, hD⟩ : ∃ t, MdK S P39 a t [(1, 14, 7), (2, 13, 7), (3, 13, 8), (4, 13, 8), (5, 14, 8), (6, 13, 8), (8, 13, 300), (9, 13, 300), (10, 13, 300), (12, 13, 6), (13, 13, 48), (14, 13, 48), (15, 13, 48), (16, 13, 48), (17, 15, 48), (18, 13, 48), (19, 13, 48), (20, 13, 6), (21, 13, 48)] := ⟨_, by rw [e1, e2]; exact md_step (j := 21) hD (by decide) q38n⟩
  clear e1 e2 h1
  refine lv_aload_n hx hb dX11_init_166 rfl (lv_at hl 0 rfl) ?_
  refine lv_bipush (v := 48) hx hb dX11_init_167 (by decide) ?_
  refine n_13 C hW hS hB (N := 48) (show Cond.arrayClass .int ∈ wsX11_init by decide +kernel) rfl (by omega) (Nat.le_of_ble_eq_true rfl) (Nat.le_of_ble_eq_true rfl) dX11_init_169 (fun q40 N40 H e2 q40n hW hS => ?_)
  have h1 : IsAt N40 11 a := by rw [e2]; exact nA_ext q40n _ _ hD.1
  refine p_1122 C hinX11 hW hS h1 l73 hnm rfl dX11_init_171 (fun P41 H locs e1 hW hS => ?_)
  replace hI : ∀ f, fI P41 f a = gZ.2.2 f := by rw [e1, e2]; exact hI
  obtain ⟨t, hD⟩ : ∃ t, MdK S P41 a t [(1, 14, 7), (2, 13, 7), (3, 13, 8), (4, 13, 8), (5, 14, 8), (6, 13, 8), (8, 13, 300), (9, 13, 300), (10, 13, 300), (12, 13, 6), (13, 13, 48), (14, 13, 48), (15, 13, 48), (16, 13, 48), (17, 15, 48), (18, 13, 48), (19, 13, 48), (20, 13, 6), (21, 13, 48), (22, 13, 48)] := ⟨_, by rw [e1, e2]; exact md_step (j := 22) hD (by decide) q40n⟩
  clear e1 e2 h1
  refine lv_aload_n hx hb dX11_init_174 rfl (lv_at hl 0 rfl) ?_
  refine lv_bipush (v := 48) hx hb dX11_init_175 (by decide) ?_
  refine n_13 C hW hS hB (N := 48) (show Cond.arrayClass .int ∈ wsX11_init by decide +kernel) rfl (by omega) (Nat.le_of_ble_eq_true rfl) (Nat.le_of_ble_eq_true rfl) dX11_init_177 (fun q42 N42 H e2 q42n hW hS => ?_)
  have h1 : IsAt N42 11 a := by rw [e2]; exact nA_ext q42n _ _ hD.1
  refine p_1123 C hinX11 hW hS h1 l76 hnm rfl dX11_init_179 (fun P43 H locs e1 hW hS => ?_)
  replace hI : ∀ f, fI P43 f a = gZ.2.2 f := by rw [e1, e2]; exact hI
  obtain ⟨t, hD⟩ : ∃ t, MdK S P43 a t [(1, 14, 7), (2, 13, 7), (3, 13, 8), (4, 13, 8), (5, 14, 8), (6, 13, 8), (8, 13, 300), (9, 13, 300), (10, 13, 300), (12, 13, 6), (13, 13, 48), (14, 13, 48), (15, 13, 48), (16, 13, 48), (17, 15, 48), (18, 13, 48), (19, 13, 48), (20, 13, 6), (21, 13, 48), (22, 13, 48), (23, 13, 48)] := ⟨_, by rw [e1, e2]; exact md_step (j := 23) hD (by decide) q42n⟩
  clear e1 e2 h1
  refine lv_aload_n hx hb dX11_init_182 rfl (lv_at hl 0 rfl) ?_
  refine lv_bipush (v := 48) hx hb dX11_init_183 (by decide) ?_
  refine n_15 C hW hS hB (N := 48) (show Cond.arrayClass .boolean ∈ wsX11_init by decide +kernel) rfl (by omega) (Nat.le_of_ble_eq_true rfl) (Nat.le_of_ble_eq_true rfl) dX11_init_185 (fun q44 N44 H e2 q44n hW hS => ?_)
  have h1 : IsAt N44 11 a := by rw [e2]; exact nA_ext q44n _ _ hD.1
  refine p_1124 C hinX11 hW hS h1 l79 hnm rfl dX11_init_187 (fun P45 H locs e1 hW hS => ?_)
  replace hI : ∀ f, fI P45 f a = gZ.2.2 f := by rw [e1, e2]; exact hI
  obtain ⟨t, hD⟩ : ∃ t, MdK S P45 a t [(1, 14, 7), (2, 13, 7), (3, 13, 8), (4, 13, 8), (5, 14, 8), (6, 13, 8), (8, 13, 300), (9, 13, 300), (10, 13, 300), (12, 13, 6), (13, 13, 48), (14, 13, 48), (15, 13, 48), (16, 13, 48), (17, 15, 48), (18, 13, 48), (19, 13, 48), (20, 13, 6), (21, 13, 48), (22, 13, 48), (23, 13, 48), (24, 15, 48)] := ⟨_, by rw [e1, e2]; exact md_step (j := 24) hD (by decide) q44n⟩
  clear e1 e2 h1
  refine lv_aload_n hx hb dX11_init_190 rfl (lv_at hl 0 rfl) ?_
  refine lv_bipush (v := 48) hx hb dX11_init_191 (by decide) ?_
  refine n_13 C hW hS hB (N := 48) (show Cond.arrayClass .int ∈ wsX11_init by decide +kernel) rfl (by omega) (Nat.le_of_ble_eq_true rfl) (Nat.le_of_ble_eq_true rfl) dX11_init_193 (fun q46 N46 H e2 q46n hW hS => ?_)
  have h1 : IsAt N46 11 a := by rw [e2]; exact nA_ext q46n _ _ hD.1
  refine p_1125 C hinX11 hW hS h1 l82 hnm rfl dX11_init_195 (fun P47 H locs e1 hW hS => ?_)
  replace hI : ∀ f, fI P47 f a = gZ.2.2 f := by rw [e1, e2]; exact hI
  obtain ⟨t, hD⟩ : ∃ t, MdK S P47 a t [(1, 14, 7), (2, 13, 7), (3, 13, 8), (4, 13, 8), (5, 14, 8), (6, 13, 8), (8, 13, 300), (9, 13, 300), (10, 13, 300), (12, 13, 6), (13, 13, 48), (14, 13, 48), (15, 13, 48), (16, 13, 48), (17, 15, 48), (18, 13, 48), (19, 13, 48), (20, 13, 6), (21, 13, 48), (22, 13, 48), (23, 13, 48), (24, 15, 48), (25, 13, 48)] := ⟨_, by rw [e1, e2]; exact md_step (j := 25) hD (by decide) q46n⟩
  clear e1 e2 h1
  refine lv_aload_n hx hb dX11_init_198 rfl (lv_at hl 0 rfl) ?_
  refine lv_bipush (v := 48) hx hb dX11_init_199 (by decide) ?_
  refine n_13 C hW hS hB (N := 48) (show Cond.arrayClass .int ∈ wsX11_init by decide +kernel) rfl (by omega) (Nat.le_of_ble_eq_true rfl) (Nat.le_of_ble_eq_true rfl) dX11_init_201 (fun q48 N48 H e2 q48n hW hS => ?_)
  have h1 : IsAt N48 11 a := by rw [e2]; exact nA_ext q48n _ _ hD.1
  refine p_1126 C hinX11 hW hS h1 l85 hnm rfl dX11_init_203 (fun P49 H locs e1 hW hS => ?_)
  replace hI : ∀ f, fI P49 f a = gZ.2.2 f := by rw [e1, e2]; exact hI
  obtain ⟨t, hD⟩ : ∃ t, MdK S P49 a t [(1, 14, 7), (2, 13, 7), (3, 13, 8), (4, 13, 8), (5, 14, 8), (6, 13, 8), (8, 13, 300), (9, 13, 300), (10, 13, 300), (12, 13, 6), (13, 13, 48), (14, 13, 48), (15, 13, 48), (16, 13, 48), (17, 15, 48), (18, 13, 48), (19, 13, 48), (20, 13, 6), (21, 13, 48), (22, 13, 48), (23, 13, 48), (24, 15, 48), (25, 13, 48), (26, 13, 48)] := ⟨_, by rw [e1, e2]; exact md_step (j := 26) hD (by decide) q48n⟩
  clear e1 e2 h1
  refine lv_aload_n hx hb dX11_init_206 rfl (lv_at hl 0 rfl) ?_
  refine lv_sipush (v := 300) hx hb dX11_init_207 (by decide) ?_
  refine n_13 C hW hS hB (N := 300) (show Cond.arrayClass .int ∈ wsX11_init by decide +kernel) rfl (by omega) (Nat.le_of_ble_eq_true rfl) (Nat.le_of_ble_eq_true rfl) dX11_init_210 (fun q50 N50 H e2 q50n hW hS => ?_)
  have h1 : IsAt N50 11 a := by rw [e2]; exact nA_ext q50n _ _ hD.1
  refine p_1127 C hinX11 hW hS h1 l88 hnm rfl dX11_init_212 (fun P51 H locs e1 hW hS => ?_)
  replace hI : ∀ f, fI P51 f a = gZ.2.2 f := by rw [e1, e2]; exact hI
  obtain ⟨t, hD⟩ : ∃ t, MdK S P51 a t [(1, 14, 7), (2, 13, 7), (3, 13, 8), (4, 13, 8), (5, 14, 8), (6, 13, 8), (8, 13, 300), (9, 13, 300), (10, 13, 300), (12, 13, 6), (13, 13, 48), (14, 13, 48), (15, 13, 48), (16, 13, 48), (17, 15, 48), (18, 13, 48), (19, 13, 48), (20, 13, 6), (21, 13, 48), (22, 13, 48), (23, 13, 48), (24, 15, 48), (25, 13, 48), (26, 13, 48), (27, 13, 300)] := ⟨_, by rw [e1, e2]; exact md_step (j := 27) hD (by decide) q50n⟩
  clear e1 e2 h1
  refine lv_aload_n hx hb dX11_init_215 rfl (lv_at hl 0 rfl) ?_
  refine lv_sipush (v := 300) hx hb dX11_init_216 (by decide) ?_
  refine n_13 C hW hS hB (N := 300) (show Cond.arrayClass .int ∈ wsX11_init by decide +kernel) rfl (by omega) (Nat.le_of_ble_eq_true rfl) (Nat.le_of_ble_eq_true rfl) dX11_init_219 (fun q52 N52 H e2 q52n hW hS => ?_)
  have h1 : IsAt N52 11 a := by rw [e2]; exact nA_ext q52n _ _ hD.1
  refine p_1128 C hinX11 hW hS h1 l91 hnm rfl dX11_init_221 (fun P53 H locs e1 hW hS => ?_)
  replace hI : ∀ f, fI P53 f a = gZ.2.2 f := by rw [e1, e2]; exact hI
  obtain ⟨t, hD⟩ : ∃ t, MdK S P53 a t [(1, 14, 7), (2, 13, 7), (3, 13, 8), (4, 13, 8), (5, 14, 8), (6, 13, 8), (8, 13, 300), (9, 13, 300), (10, 13, 300), (12, 13, 6), (13, 13, 48), (14, 13, 48), (15, 13, 48), (16, 13, 48), (17, 15, 48), (18, 13, 48), (19, 13, 48), (20, 13, 6), (21, 13, 48), (22, 13, 48), (23, 13, 48), (24, 15, 48), (25, 13, 48), (26, 13, 48), (27, 13, 300), (28, 13, 300)] := ⟨_, by rw [e1, e2]; exact md_step (j := 28) hD (by decide) q52n⟩
  clear e1 e2 h1
  refine lv_aload_n hx hb dX11_init_224 rfl (lv_at hl 0 rfl) ?_
  refine lv_sipush (v := 300) hx hb dX11_init_225 (by decide) ?_
  refine n_13 C hW hS hB (N := 300) (show Cond.arrayClass .int ∈ wsX11_init by decide +kernel) rfl (by omega) (Nat.le_of_ble_eq_true rfl) (Nat.le_of_ble_eq_true rfl) dX11_init_228 (fun q54 N54 H e2 q54n hW hS => ?_)
  have h1 : IsAt N54 11 a := by rw [e2]; exact nA_ext q54n _ _ hD.1
  refine p_1129 C hinX11 hW hS h1 l94 hnm rfl dX11_init_230 (fun P55 H locs e1 hW hS => ?_)
  replace hI : ∀ f, fI P55 f a = gZ.2.2 f := by rw [e1, e2]; exact hI
  obtain ⟨t, hD⟩ : ∃ t, MdK S P55 a t [(1, 14, 7), (2, 13, 7), (3, 13, 8), (4, 13, 8), (5, 14, 8), (6, 13, 8), (8, 13, 300), (9, 13, 300), (10, 13, 300), (12, 13, 6), (13, 13, 48), (14, 13, 48), (15, 13, 48), (16, 13, 48), (17, 15, 48), (18, 13, 48), (19, 13, 48), (20, 13, 6), (21, 13, 48), (22, 13, 48), (23, 13, 48), (24, 15, 48), (25, 13, 48), (26, 13, 48), (27, 13, 300), (28, 13, 300), (29, 13, 300)] := ⟨_, by rw [e1, e2]; exact md_step (j := 29) hD (by decide) q54n⟩
  clear e1 e2 h1
  refine lv_aload_n hx hb dX11_init_233 rfl (lv_at hl 0 rfl) ?_
  refine lv_sipush (v := 300) hx hb dX11_init_234 (by decide) ?_
  refine n_13 C hW hS hB (N := 300) (show Cond.arrayClass .int ∈ wsX11_init by decide +kernel) rfl (by omega) (Nat.le_of_ble_eq_true rfl) (Nat.le_of_ble_eq_true rfl) dX11_init_237 (fun q56 N56 H e2 q56n hW hS => ?_)
  have h1 : IsAt N56 11 a := by rw [e2]; exact nA_ext q56n _ _ hD.1
  refine p_1130 C hinX11 hW hS h1 l97 hnm rfl dX11_init_239 (fun P57 H locs e1 hW hS => ?_)
  replace hI : ∀ f, fI P57 f a = gZ.2.2 f := by rw [e1, e2]; exact hI
  obtain ⟨t, hD⟩ : ∃ t, MdK S P57 a t [(1, 14, 7), (2, 13, 7), (3, 13, 8), (4, 13, 8), (5, 14, 8), (6, 13, 8), (8, 13, 300), (9, 13, 300), (10, 13, 300), (12, 13, 6), (13, 13, 48), (14, 13, 48), (15, 13, 48), (16, 13, 48), (17, 15, 48), (18, 13, 48), (19, 13, 48), (20, 13, 6), (21, 13, 48), (22, 13, 48), (23, 13, 48), (24, 15, 48), (25, 13, 48), (26, 13, 48), (27, 13, 300), (28, 13, 300), (29, 13, 300), (30, 13, 300)] := ⟨_, by rw [e1, e2]; exact md_step (j := 30) hD (by decide) q56n⟩
  clear e1 e2 h1
  refine lv_aload_n hx hb dX11_init_242 rfl (lv_at hl 0 rfl) ?_
  refine lv_sipush (v := 2400) hx hb dX11_init_243 (by decide) ?_
  refine n_13 C hW hS hB (N := 2400) (show Cond.arrayClass .int ∈ wsX11_init by decide +kernel) rfl (by omega) (Nat.le_of_ble_eq_true rfl) (Nat.le_of_ble_eq_true rfl) dX11_init_246 (fun q58 N58 H e2 q58n hW hS => ?_)
  have h1 : IsAt N58 11 a := by rw [e2]; exact nA_ext q58n _ _ hD.1
  refine p_1132 C hinX11 hW hS h1 l100 hnm rfl dX11_init_248 (fun P59 H locs e1 hW hS => ?_)
  replace hI : ∀ f, fI P59 f a = gZ.2.2 f := by rw [e1, e2]; exact hI
  obtain ⟨t, hD⟩ : ∃ t, MdK S P59 a t [(1, 14, 7), (2, 13, 7), (3, 13, 8), (4, 13, 8), (5, 14, 8), (6, 13, 8), (8, 13, 300), (9, 13, 300), (10, 13, 300), (12, 13, 6), (13, 13, 48), (14, 13, 48), (15, 13, 48), (16, 13, 48), (17, 15, 48), (18, 13, 48), (19, 13, 48), (20, 13, 6), (21, 13, 48), (22, 13, 48), (23, 13, 48), (24, 15, 48), (25, 13, 48), (26, 13, 48), (27, 13, 300), (28, 13, 300), (29, 13, 300), (30, 13, 300), (32, 13, 2400)] := ⟨_, by rw [e1, e2]; exact md_step (j := 32) hD (by decide) q58n⟩
  clear e1 e2 h1
  refine lv_aload_n hx hb dX11_init_251 rfl (lv_at hl 0 rfl) ?_
  refine lv_sipush (v := 300) hx hb dX11_init_252 (by decide) ?_
  refine n_15 C hW hS hB (N := 300) (show Cond.arrayClass .boolean ∈ wsX11_init by decide +kernel) rfl (by omega) (Nat.le_of_ble_eq_true rfl) (Nat.le_of_ble_eq_true rfl) dX11_init_255 (fun q60 N60 H e2 q60n hW hS => ?_)
  have h1 : IsAt N60 11 a := by rw [e2]; exact nA_ext q60n _ _ hD.1
  refine p_1133 C hinX11 hW hS h1 l103 hnm rfl dX11_init_257 (fun P61 H locs e1 hW hS => ?_)
  replace hI : ∀ f, fI P61 f a = gZ.2.2 f := by rw [e1, e2]; exact hI
  obtain ⟨t, hD⟩ : ∃ t, MdK S P61 a t [(1, 14, 7), (2, 13, 7), (3, 13, 8), (4, 13, 8), (5, 14, 8), (6, 13, 8), (8, 13, 300), (9, 13, 300), (10, 13, 300), (12, 13, 6), (13, 13, 48), (14, 13, 48), (15, 13, 48), (16, 13, 48), (17, 15, 48), (18, 13, 48), (19, 13, 48), (20, 13, 6), (21, 13, 48), (22, 13, 48), (23, 13, 48), (24, 15, 48), (25, 13, 48), (26, 13, 48), (27, 13, 300), (28, 13, 300), (29, 13, 300), (30, 13, 300), (32, 13, 2400), (33, 15, 300)] := ⟨_, by rw [e1, e2]; exact md_step (j := 33) hD (by decide) q60n⟩
  clear e1 e2 h1
  obtain ⟨t, hR, hnew, hFr⟩ : ∃ t, MR P61 a t gZ ∧ (∀ j, t j ∉ pL S) ∧ Fr S P61 (fun x => x = a) := ⟨_, md_end hD hI⟩
  obtain ⟨P0, hP0⟩ : ∃ P0, P0 = P61 := ⟨_, rfl⟩
  rw [← hP0] at hR hFr hW
  clear hD hI
  refine lv_iconst (v := 0) hx hb dX11_init_260 (by decide) ?_
  refine lv_istore_n (lv' := [(1, .int 0), (0, .ref a)]) hx hb dX11_init_261 rfl hl (by decide) rfl (fun ls hl => ?_)
  have lp : ∀ (d i : Nat) (Sk : PS) (H : Heap) (locs : List Loc) (ls : Array Slot), i ≤ 7 → 7 - i < d → MR Sk a t (gA gZ i) → MO P0 Sk a t → PW D cy B Sk H → va_S (Aw B) s.heap H locs → lv_has ls 2 [(0, .ref a), (1, .int (nI i))] → W p l e ({ frames := 1, cells := 30, slots := 5482, locals := 12 }) s m [.ref a].toArray below meth c H locs 30 5482 (MQ below (va_Qv (fun S2 => ∃ t, MR S2 a t g0 ∧ (∀ j, t j ∉ pL S) ∧ Fr S S2 (fun x => x = a)) (PreW D cy B s0) (Aw B)) [.ref a].toArray s 30 5482 (Aw B)) (F0 m 262 ls []) := by
    intro d
    induction d with
    | zero => intro i  Sk H locs ls _ hd; exact absurd hd (Nat.not_lt_zero _)
    | succ d ih =>
      intro i  Sk H locs ls hk hd hR hO hW hS hl
      refine lv_iload_n hx hb dX11_init_262 rfl (lv_at hl 1 rfl) ?_
      refine lv_bipush (v := 7) hx hb dX11_init_263 (by decide) ?_
      refine lv_icmp_ge (tgt := 283) hx hb dX11_init_265 (by decide) (fun c_265 => ?_) (fun c_265 => ?_)
      · have q_265 : 7 ≤ i := (nI_leI (a := 7) (b := i) (by omega) (by omega)).mp c_265
        refine lv_iconst (v := 0) hx hb dX11_init_283 (by decide) ?_
        refine lv_istore_n (lv' := [(1, .int 0), (0, .ref a)]) hx hb dX11_init_284 rfl hl (by decide) rfl (fun ls hl => ?_)
        have lp2 : ∀ (d_lp2 j : Nat) (Sk : PS) (H : Heap) (locs : List Loc) (ls : Array Slot), j ≤ 48 → 48 - j < d_lp2 → MR Sk a t (gB (gA gZ 7) j) → MO P0 Sk a t → PW D cy B Sk H → va_S (Aw B) s.heap H locs → lv_has ls 2 [(0, .ref a), (1, .int (nI j))] → W p l e ({ frames := 1, cells := 30, slots := 5482, locals := 12 }) s m [.ref a].toArray below meth c H locs 30 5482 (MQ below (va_Qv (fun S2 => ∃ t, MR S2 a t g0 ∧ (∀ j, t j ∉ pL S) ∧ Fr S S2 (fun x => x = a)) (PreW D cy B s0) (Aw B)) [.ref a].toArray s 30 5482 (Aw B)) (F0 m 285 ls []) := by
          intro d_lp2
          induction d_lp2 with
          | zero => intro j  Sk H locs ls _ hd; exact absurd hd (Nat.not_lt_zero _)
          | succ d_lp2 ih_lp2 =>
            intro j  Sk H locs ls hk hd hR hO hW hS hl
            refine lv_iload_n hx hb dX11_init_285 rfl (lv_at hl 1 rfl) ?_
            refine lv_bipush (v := 48) hx hb dX11_init_286 (by decide) ?_
            refine lv_icmp_ge (tgt := 311) hx hb dX11_init_288 (by decide) (fun c_288 => ?_) (fun c_288 => ?_)
            · have q_288 : 48 ≤ j := (nI_leI (a := 48) (b := j) (by omega) (by omega)).mp c_288
              exact k_vret C hr hlk hW hS hB ⟨t, by rw [show j = 48 by omega] at hR; exact hR, hnew, hO.fr hnew hFr⟩ (Nat.le_refl _) (Nat.le_refl _) dX11_init_311
            · have q_288 : ¬ (48 ≤ j) := fun z => c_288 ((nI_leI (a := 48) (b := j) (by omega) (by omega)).mpr z)
              
              refine lv_aload_n hx hb dX11_init_291 rfl (lv_at hl 0 rfl) ?_
              refine g_1119 C hinX11 hW hR.1.1 (mA_19 hR.1) l64 dX11_init_292 ?_
              refine lv_iload_n hx hb dX11_init_295 rfl (lv_at hl 1 rfl) ?_
              refine lv_iconst (v := 1) hx hb dX11_init_296 (by decide) ?_
              refine a_Istore C hW hS (j := j) (mK_19 hR.1) (mN_19 hR.1) rfl (by omega) (by omega) dX11_init_297 (fun S62 H locs e1 hW hS => ?_)
              replace hR : MR S62 a t (iI (gB (gA gZ 7) j) 19 j 1) := by rw [e1]; exact hR.wI
              replace hO : MO P0 S62 a t := by rw [e1]; exact hO.wI
              clear e1
              refine lv_aload_n hx hb dX11_init_298 rfl (lv_at hl 0 rfl) ?_
              refine g_1113 C hinX11 hW hR.1.1 (mA_13 hR.1) l45 dX11_init_299 ?_
              refine lv_iload_n hx hb dX11_init_302 rfl (lv_at hl 1 rfl) ?_
              refine lv_iconst (v := (-1)) hx hb dX11_init_303 (by decide) ?_
              refine a_Istore C hW hS (j := j) (mK_13 hR.1) (mN_13 hR.1) rfl (by omega) (by omega) dX11_init_304 (fun S63 H locs e1 hW hS => ?_)
              replace hR : MR S63 a t (iI (iI (gB (gA gZ 7) j) 19 j 1) 13 j (-1)) := by rw [e1]; exact hR.wI
              replace hO : MO P0 S63 a t := by rw [e1]; exact hO.wI
              clear e1
              refine lv_iinc (v := nI (j + 1)) (lv' := [(1, .int (nI (j + 1))), (0, .ref a)]) hx hb dX11_init_305 hl (k := 1) rfl (nI_add j 1) (by decide) rfl (fun ls hl => ?_)
              refine lv_goto (tgt := 285) hx hb dX11_init_308 (by decide) ?_
              exact W.widen (Nat.le_refl _) (Nat.le_refl _) (ih_lp2 (j + 1)  _ _ _ ls (by omega) (by omega) hR hO hW hS (lv_sub hl [1, 0] rfl))
        exact W.widen (Nat.le_refl _) (Nat.le_refl _) (lp2 (48 - 0 + 1) 0  _ _ _ ls (by omega) (by omega) (by rw [show i = 7 by omega] at hR; exact hR) hO hW hS (lv_sub hl [1, 0] rfl))
      · have q_265 : ¬ (7 ≤ i) := fun z => c_265 ((nI_leI (a := 7) (b := i) (by omega) (by omega)).mpr z)
        
        refine lv_aload_n hx hb dX11_init_268 rfl (lv_at hl 0 rfl) ?_
        refine g_1102 C hinX11 hW hR.1.1 (mA_2 hR.1) l13 dX11_init_269 ?_
        refine lv_iload_n hx hb dX11_init_272 rfl (lv_at hl 1 rfl) ?_
        refine lv_sipush (v := 1000) hx hb dX11_init_273 (by decide) ?_
        refine a_Istore C hW hS (j := i) (mK_2 hR.1) (mN_2 hR.1) rfl (by omega) (by omega) dX11_init_276 (fun S64 H locs e1 hW hS => ?_)
        replace hR : MR S64 a t (iI (gA gZ i) 2 i 1000) := by rw [e1]; exact hR.wI
        replace hO : MO P0 S64 a t := by rw [e1]; exact hO.wI
        clear e1
        refine lv_iinc (v := nI (i + 1)) (lv' := [(1, .int (nI (i + 1))), (0, .ref a)]) hx hb dX11_init_277 hl (k := 1) rfl (nI_add i 1) (by decide) rfl (fun ls hl => ?_)
        refine lv_goto (tgt := 262) hx hb dX11_init_280 (by decide) ?_
        exact W.widen (Nat.le_refl _) (Nat.le_refl _) (ih (i + 1)  _ _ _ ls (by omega) (by omega) hR hO hW hS (lv_sub hl [1, 0] rfl))
  exact W.widen (Nat.le_of_ble_eq_true rfl) (Nat.le_of_ble_eq_true rfl) (lp (7 - 0 + 1) 0  _ _ _ ls (by omega) (by omega) hR MO.rf hW hS (lv_sub hl [1, 0] rfl))
