def mTab : List (Nat × Nat × Nat) := [(1, 14, 7), (2, 13, 7), (3, 13, 8), (4, 13, 8), (5, 14, 8), (6, 13, 8), (8, 13, 300), (9, 13, 300), (10, 13, 300), (12, 13, 6), (13, 13, 48), (14, 13, 48), (15, 13, 48), (16, 13, 48), (17, 15, 48), (18, 13, 48), (19, 13, 48), (20, 13, 6), (21, 13, 48), (22, 13, 48), (23, 13, 48), (24, 15, 48), (25, 13, 48), (26, 13, 48), (27, 13, 300), (28, 13, 300), (29, 13, 300), (30, 13, 300), (32, 13, 2400), (33, 15, 300)]
/-- the reference's object at a, its arrays at t -/
def MAt (S : PS) (a : Nat) (t : Nat → Nat) : Prop := IsAt S 11 a ∧ (∀ q ∈ mTab, fR S (1100 + q.1) a = some (t q.1) ∧ IsAt S q.2.1 (t q.1) ∧ aN S (t q.1) = q.2.2) ∧ ∀ q ∈ mTab, ∀ r ∈ mTab, t q.1 = t r.1 → q.1 = r.1
theorem mA_1 {S : PS} {a : Nat} {t : Nat → Nat} (h : MAt S a t) : fR S 1101 a = some (t 1) := (h.2.1 (1, 14, 7) (by decide)).1
theorem mK_1 {S : PS} {a : Nat} {t : Nat → Nat} (h : MAt S a t) : IsAt S 14 (t 1) := (h.2.1 (1, 14, 7) (by decide)).2.1
theorem mN_1 {S : PS} {a : Nat} {t : Nat → Nat} (h : MAt S a t) : aN S (t 1) = 7 := (h.2.1 (1, 14, 7) (by decide)).2.2
theorem mA_2 {S : PS} {a : Nat} {t : Nat → Nat} (h : MAt S a t) : fR S 1102 a = some (t 2) := (h.2.1 (2, 13, 7) (by decide)).1
theorem mK_2 {S : PS} {a : Nat} {t : Nat → Nat} (h : MAt S a t) : IsAt S 13 (t 2) := (h.2.1 (2, 13, 7) (by decide)).2.1
theorem mN_2 {S : PS} {a : Nat} {t : Nat → Nat} (h : MAt S a t) : aN S (t 2) = 7 := (h.2.1 (2, 13, 7) (by decide)).2.2
theorem mA_3 {S : PS} {a : Nat} {t : Nat → Nat} (h : MAt S a t) : fR S 1103 a = some (t 3) := (h.2.1 (3, 13, 8) (by decide)).1
theorem mK_3 {S : PS} {a : Nat} {t : Nat → Nat} (h : MAt S a t) : IsAt S 13 (t 3) := (h.2.1 (3, 13, 8) (by decide)).2.1
theorem mN_3 {S : PS} {a : Nat} {t : Nat → Nat} (h : MAt S a t) : aN S (t 3) = 8 := (h.2.1 (3, 13, 8) (by decide)).2.2
theorem mA_4 {S : PS} {a : Nat} {t : Nat → Nat} (h : MAt S a t) : fR S 1104 a = some (t 4) := (h.2.1 (4, 13, 8) (by decide)).1
theorem mK_4 {S : PS} {a : Nat} {t : Nat → Nat} (h : MAt S a t) : IsAt S 13 (t 4) := (h.2.1 (4, 13, 8) (by decide)).2.1
theorem mN_4 {S : PS} {a : Nat} {t : Nat → Nat} (h : MAt S a t) : aN S (t 4) = 8 := (h.2.1 (4, 13, 8) (by decide)).2.2
theorem mA_5 {S : PS} {a : Nat} {t : Nat → Nat} (h : MAt S a t) : fR S 1105 a = some (t 5) := (h.2.1 (5, 14, 8) (by decide)).1
theorem mK_5 {S : PS} {a : Nat} {t : Nat → Nat} (h : MAt S a t) : IsAt S 14 (t 5) := (h.2.1 (5, 14, 8) (by decide)).2.1
theorem mN_5 {S : PS} {a : Nat} {t : Nat → Nat} (h : MAt S a t) : aN S (t 5) = 8 := (h.2.1 (5, 14, 8) (by decide)).2.2
theorem mA_6 {S : PS} {a : Nat} {t : Nat → Nat} (h : MAt S a t) : fR S 1106 a = some (t 6) := (h.2.1 (6, 13, 8) (by decide)).1
theorem mK_6 {S : PS} {a : Nat} {t : Nat → Nat} (h : MAt S a t) : IsAt S 13 (t 6) := (h.2.1 (6, 13, 8) (by decide)).2.1
theorem mN_6 {S : PS} {a : Nat} {t : Nat → Nat} (h : MAt S a t) : aN S (t 6) = 8 := (h.2.1 (6, 13, 8) (by decide)).2.2
theorem mA_8 {S : PS} {a : Nat} {t : Nat → Nat} (h : MAt S a t) : fR S 1108 a = some (t 8) := (h.2.1 (8, 13, 300) (by decide)).1
theorem mK_8 {S : PS} {a : Nat} {t : Nat → Nat} (h : MAt S a t) : IsAt S 13 (t 8) := (h.2.1 (8, 13, 300) (by decide)).2.1
theorem mN_8 {S : PS} {a : Nat} {t : Nat → Nat} (h : MAt S a t) : aN S (t 8) = 300 := (h.2.1 (8, 13, 300) (by decide)).2.2
theorem mA_9 {S : PS} {a : Nat} {t : Nat → Nat} (h : MAt S a t) : fR S 1109 a = some (t 9) := (h.2.1 (9, 13, 300) (by decide)).1
theorem mK_9 {S : PS} {a : Nat} {t : Nat → Nat} (h : MAt S a t) : IsAt S 13 (t 9) := (h.2.1 (9, 13, 300) (by decide)).2.1
theorem mN_9 {S : PS} {a : Nat} {t : Nat → Nat} (h : MAt S a t) : aN S (t 9) = 300 := (h.2.1 (9, 13, 300) (by decide)).2.2
theorem mA_10 {S : PS} {a : Nat} {t : Nat → Nat} (h : MAt S a t) : fR S 1110 a = some (t 10) := (h.2.1 (10, 13, 300) (by decide)).1
theorem mK_10 {S : PS} {a : Nat} {t : Nat → Nat} (h : MAt S a t) : IsAt S 13 (t 10) := (h.2.1 (10, 13, 300) (by decide)).2.1
theorem mN_10 {S : PS} {a : Nat} {t : Nat → Nat} (h : MAt S a t) : aN S (t 10) = 300 := (h.2.1 (10, 13, 300) (by decide)).2.2
theorem mA_12 {S : PS} {a : Nat} {t : Nat → Nat} (h : MAt S a t) : fR S 1112 a = some (t 12) := (h.2.1 (12, 13, 6) (by decide)).1
theorem mK_12 {S : PS} {a : Nat} {t : Nat → Nat} (h : MAt S a t) : IsAt S 13 (t 12) := (h.2.1 (12, 13, 6) (by decide)).2.1
theorem mN_12 {S : PS} {a : Nat} {t : Nat → Nat} (h : MAt S a t) : aN S (t 12) = 6 := (h.2.1 (12, 13, 6) (by decide)).2.2
theorem mA_13 {S : PS} {a : Nat} {t : Nat → Nat} (h : MAt S a t) : fR S 1113 a = some (t 13) := (h.2.1 (13, 13, 48) (by decide)).1
theorem mK_13 {S : PS} {a : Nat} {t : Nat → Nat} (h : MAt S a t) : IsAt S 13 (t 13) := (h.2.1 (13, 13, 48) (by decide)).2.1
theorem mN_13 {S : PS} {a : Nat} {t : Nat → Nat} (h : MAt S a t) : aN S (t 13) = 48 := (h.2.1 (13, 13, 48) (by decide)).2.2
theorem mA_14 {S : PS} {a : Nat} {t : Nat → Nat} (h : MAt S a t) : fR S 1114 a = some (t 14) := (h.2.1 (14, 13, 48) (by decide)).1
theorem mK_14 {S : PS} {a : Nat} {t : Nat → Nat} (h : MAt S a t) : IsAt S 13 (t 14) := (h.2.1 (14, 13, 48) (by decide)).2.1
theorem mN_14 {S : PS} {a : Nat} {t : Nat → Nat} (h : MAt S a t) : aN S (t 14) = 48 := (h.2.1 (14, 13, 48) (by decide)).2.2
theorem mA_15 {S : PS} {a : Nat} {t : Nat → Nat} (h : MAt S a t) : fR S 1115 a = some (t 15) := (h.2.1 (15, 13, 48) (by decide)).1
theorem mK_15 {S : PS} {a : Nat} {t : Nat → Nat} (h : MAt S a t) : IsAt S 13 (t 15) := (h.2.1 (15, 13, 48) (by decide)).2.1
theorem mN_15 {S : PS} {a : Nat} {t : Nat → Nat} (h : MAt S a t) : aN S (t 15) = 48 := (h.2.1 (15, 13, 48) (by decide)).2.2
theorem mA_16 {S : PS} {a : Nat} {t : Nat → Nat} (h : MAt S a t) : fR S 1116 a = some (t 16) := (h.2.1 (16, 13, 48) (by decide)).1
theorem mK_16 {S : PS} {a : Nat} {t : Nat → Nat} (h : MAt S a t) : IsAt S 13 (t 16) := (h.2.1 (16, 13, 48) (by decide)).2.1
theorem mN_16 {S : PS} {a : Nat} {t : Nat → Nat} (h : MAt S a t) : aN S (t 16) = 48 := (h.2.1 (16, 13, 48) (by decide)).2.2
theorem mA_17 {S : PS} {a : Nat} {t : Nat → Nat} (h : MAt S a t) : fR S 1117 a = some (t 17) := (h.2.1 (17, 15, 48) (by decide)).1
theorem mK_17 {S : PS} {a : Nat} {t : Nat → Nat} (h : MAt S a t) : IsAt S 15 (t 17) := (h.2.1 (17, 15, 48) (by decide)).2.1
theorem mN_17 {S : PS} {a : Nat} {t : Nat → Nat} (h : MAt S a t) : aN S (t 17) = 48 := (h.2.1 (17, 15, 48) (by decide)).2.2
theorem mA_18 {S : PS} {a : Nat} {t : Nat → Nat} (h : MAt S a t) : fR S 1118 a = some (t 18) := (h.2.1 (18, 13, 48) (by decide)).1
theorem mK_18 {S : PS} {a : Nat} {t : Nat → Nat} (h : MAt S a t) : IsAt S 13 (t 18) := (h.2.1 (18, 13, 48) (by decide)).2.1
theorem mN_18 {S : PS} {a : Nat} {t : Nat → Nat} (h : MAt S a t) : aN S (t 18) = 48 := (h.2.1 (18, 13, 48) (by decide)).2.2
theorem mA_19 {S : PS} {a : Nat} {t : Nat → Nat} (h : MAt S a t) : fR S 1119 a = some (t 19) := (h.2.1 (19, 13, 48) (by decide)).1
theorem mK_19 {S : PS} {a : Nat} {t : Nat → Nat} (h : MAt S a t) : IsAt S 13 (t 19) := (h.2.1 (19, 13, 48) (by decide)).2.1
theorem mN_19 {S : PS} {a : Nat} {t : Nat → Nat} (h : MAt S a t) : aN S (t 19) = 48 := (h.2.1 (19, 13, 48) (by decide)).2.2
theorem mA_20 {S : PS} {a : Nat} {t : Nat → Nat} (h : MAt S a t) : fR S 1120 a = some (t 20) := (h.2.1 (20, 13, 6) (by decide)).1
theorem mK_20 {S : PS} {a : Nat} {t : Nat → Nat} (h : MAt S a t) : IsAt S 13 (t 20) := (h.2.1 (20, 13, 6) (by decide)).2.1
theorem mN_20 {S : PS} {a : Nat} {t : Nat → Nat} (h : MAt S a t) : aN S (t 20) = 6 := (h.2.1 (20, 13, 6) (by decide)).2.2
theorem mA_21 {S : PS} {a : Nat} {t : Nat → Nat} (h : MAt S a t) : fR S 1121 a = some (t 21) := (h.2.1 (21, 13, 48) (by decide)).1
theorem mK_21 {S : PS} {a : Nat} {t : Nat → Nat} (h : MAt S a t) : IsAt S 13 (t 21) := (h.2.1 (21, 13, 48) (by decide)).2.1
theorem mN_21 {S : PS} {a : Nat} {t : Nat → Nat} (h : MAt S a t) : aN S (t 21) = 48 := (h.2.1 (21, 13, 48) (by decide)).2.2
theorem mA_22 {S : PS} {a : Nat} {t : Nat → Nat} (h : MAt S a t) : fR S 1122 a = some (t 22) := (h.2.1 (22, 13, 48) (by decide)).1
theorem mK_22 {S : PS} {a : Nat} {t : Nat → Nat} (h : MAt S a t) : IsAt S 13 (t 22) := (h.2.1 (22, 13, 48) (by decide)).2.1
theorem mN_22 {S : PS} {a : Nat} {t : Nat → Nat} (h : MAt S a t) : aN S (t 22) = 48 := (h.2.1 (22, 13, 48) (by decide)).2.2
theorem mA_23 {S : PS} {a : Nat} {t : Nat → Nat} (h : MAt S a t) : fR S 1123 a = some (t 23) := (h.2.1 (23, 13, 48) (by decide)).1
theorem mK_23 {S : PS} {a : Nat} {t : Nat → Nat} (h : MAt S a t) : IsAt S 13 (t 23) := (h.2.1 (23, 13, 48) (by decide)).2.1
theorem mN_23 {S : PS} {a : Nat} {t : Nat → Nat} (h : MAt S a t) : aN S (t 23) = 48 := (h.2.1 (23, 13, 48) (by decide)).2.2
theorem mA_24 {S : PS} {a : Nat} {t : Nat → Nat} (h : MAt S a t) : fR S 1124 a = some (t 24) := (h.2.1 (24, 15, 48) (by decide)).1
theorem mK_24 {S : PS} {a : Nat} {t : Nat → Nat} (h : MAt S a t) : IsAt S 15 (t 24) := (h.2.1 (24, 15, 48) (by decide)).2.1
theorem mN_24 {S : PS} {a : Nat} {t : Nat → Nat} (h : MAt S a t) : aN S (t 24) = 48 := (h.2.1 (24, 15, 48) (by decide)).2.2
theorem mA_25 {S : PS} {a : Nat} {t : Nat → Nat} (h : MAt S a t) : fR S 1125 a = some (t 25) := (h.2.1 (25, 13, 48) (by decide)).1
theorem mK_25 {S : PS} {a : Nat} {t : Nat → Nat} (h : MAt S a t) : IsAt S 13 (t 25) := (h.2.1 (25, 13, 48) (by decide)).2.1
theorem mN_25 {S : PS} {a : Nat} {t : Nat → Nat} (h : MAt S a t) : aN S (t 25) = 48 := (h.2.1 (25, 13, 48) (by decide)).2.2
theorem mA_26 {S : PS} {a : Nat} {t : Nat → Nat} (h : MAt S a t) : fR S 1126 a = some (t 26) := (h.2.1 (26, 13, 48) (by decide)).1
theorem mK_26 {S : PS} {a : Nat} {t : Nat → Nat} (h : MAt S a t) : IsAt S 13 (t 26) := (h.2.1 (26, 13, 48) (by decide)).2.1
theorem mN_26 {S : PS} {a : Nat} {t : Nat → Nat} (h : MAt S a t) : aN S (t 26) = 48 := (h.2.1 (26, 13, 48) (by decide)).2.2
theorem mA_27 {S : PS} {a : Nat} {t : Nat → Nat} (h : MAt S a t) : fR S 1127 a = some (t 27) := (h.2.1 (27, 13, 300) (by decide)).1
theorem mK_27 {S : PS} {a : Nat} {t : Nat → Nat} (h : MAt S a t) : IsAt S 13 (t 27) := (h.2.1 (27, 13, 300) (by decide)).2.1
theorem mN_27 {S : PS} {a : Nat} {t : Nat → Nat} (h : MAt S a t) : aN S (t 27) = 300 := (h.2.1 (27, 13, 300) (by decide)).2.2
theorem mA_28 {S : PS} {a : Nat} {t : Nat → Nat} (h : MAt S a t) : fR S 1128 a = some (t 28) := (h.2.1 (28, 13, 300) (by decide)).1
theorem mK_28 {S : PS} {a : Nat} {t : Nat → Nat} (h : MAt S a t) : IsAt S 13 (t 28) := (h.2.1 (28, 13, 300) (by decide)).2.1
theorem mN_28 {S : PS} {a : Nat} {t : Nat → Nat} (h : MAt S a t) : aN S (t 28) = 300 := (h.2.1 (28, 13, 300) (by decide)).2.2
theorem mA_29 {S : PS} {a : Nat} {t : Nat → Nat} (h : MAt S a t) : fR S 1129 a = some (t 29) := (h.2.1 (29, 13, 300) (by decide)).1
theorem mK_29 {S : PS} {a : Nat} {t : Nat → Nat} (h : MAt S a t) : IsAt S 13 (t 29) := (h.2.1 (29, 13, 300) (by decide)).2.1
theorem mN_29 {S : PS} {a : Nat} {t : Nat → Nat} (h : MAt S a t) : aN S (t 29) = 300 := (h.2.1 (29, 13, 300) (by decide)).2.2
theorem mA_30 {S : PS} {a : Nat} {t : Nat → Nat} (h : MAt S a t) : fR S 1130 a = some (t 30) := (h.2.1 (30, 13, 300) (by decide)).1
theorem mK_30 {S : PS} {a : Nat} {t : Nat → Nat} (h : MAt S a t) : IsAt S 13 (t 30) := (h.2.1 (30, 13, 300) (by decide)).2.1
theorem mN_30 {S : PS} {a : Nat} {t : Nat → Nat} (h : MAt S a t) : aN S (t 30) = 300 := (h.2.1 (30, 13, 300) (by decide)).2.2
theorem mA_32 {S : PS} {a : Nat} {t : Nat → Nat} (h : MAt S a t) : fR S 1132 a = some (t 32) := (h.2.1 (32, 13, 2400) (by decide)).1
theorem mK_32 {S : PS} {a : Nat} {t : Nat → Nat} (h : MAt S a t) : IsAt S 13 (t 32) := (h.2.1 (32, 13, 2400) (by decide)).2.1
theorem mN_32 {S : PS} {a : Nat} {t : Nat → Nat} (h : MAt S a t) : aN S (t 32) = 2400 := (h.2.1 (32, 13, 2400) (by decide)).2.2
theorem mA_33 {S : PS} {a : Nat} {t : Nat → Nat} (h : MAt S a t) : fR S 1133 a = some (t 33) := (h.2.1 (33, 15, 300) (by decide)).1
theorem mK_33 {S : PS} {a : Nat} {t : Nat → Nat} (h : MAt S a t) : IsAt S 15 (t 33) := (h.2.1 (33, 15, 300) (by decide)).2.1
theorem mN_33 {S : PS} {a : Nat} {t : Nat → Nat} (h : MAt S a t) : aN S (t 33) = 300 := (h.2.1 (33, 15, 300) (by decide)).2.2
theorem mNe {S : PS} {a : Nat} {t : Nat → Nat} (h : MAt S a t) {i j ki kj ni nj : Nat} (hi : (i, ki, ni) ∈ mTab) (hj : (j, kj, nj) ∈ mTab) (hne : i ≠ j) : t i ≠ t j := fun z => hne (h.2.2 _ hi _ hj z)
set_option maxRecDepth 100000 in
set_option maxHeartbeats 4000000 in
theorem c_X11_thrown {l : Launch} {D : va_G} {cy : Nat → ClassId} {B : Nat} {S : PS} {a0 : Nat} {t : Nat → Nat} (hM : MAt S a0 t) : KI l yX11_thrown wsX11_thrown ({ frames := 0, cells := 0, slots := 0, locals := 0 }) D cy B [.ref a0] S (fun r S2 => r = fI S 1100 a0 ∧ S2 = S) 0 0 := by
  refine k_body (own := RX11) (cc := cX11_thrown) (maxL := 1) (ret := (some .int)) rfl (by decide) rfl (Nat.le_of_ble_eq_true rfl) ?_
  intro p e s m below meth c C hml hr hlk hnm hB hW ls hl
  obtain ⟨hx, hb, hts, hown, hK⟩ := id C
  have hS : va_S (Aw B) s.heap s.heap [] := va_S.rf
  have hinX11 : ∀ w ∈ wsX110, w ∈ wsX11_thrown := by decide +kernel
  have l106 : Cond.fieldLink RX11 106 "LeaseGatesModel" "refusal" "I" ∈ wsX11_thrown := by decide +kernel
  have hl : lv_has ls 1 [(0, .ref a0)] := hl
  refine lv_aload_n hx hb dX11_thrown_0 rfl (lv_at hl 0 rfl) ?_
  refine g_1100 C hinX11 hW hM.1 l106 dX11_thrown_1 ?_
  exact k_iret C hr hlk hW hS hB ⟨rfl, rfl⟩ (Nat.le_refl _) (Nat.le_refl _) dX11_thrown_4
set_option maxRecDepth 100000 in
set_option maxHeartbeats 4000000 in
theorem c_X11_refused {l : Launch} {D : va_G} {cy : Nat → ClassId} {B : Nat} {S : PS} {a0 : Nat} {t : Nat → Nat} {x : Int32} (hM : MAt S a0 t) : KI l yX11_refused wsX11_refused ({ frames := 0, cells := 0, slots := 0, locals := 0 }) D cy B [.ref a0, .int x] S (fun r S2 => r = (if 0 < x then 1 else 0) ∧ S2 = sI S 1100 a0 x) 0 0 := by
  refine k_body (own := RX11) (cc := cX11_refused) (maxL := 2) (ret := (some .boolean)) rfl (by decide) rfl (Nat.le_of_ble_eq_true rfl) ?_
  intro p e s m below meth c C hml hr hlk hnm hB hW ls hl
  obtain ⟨hx, hb, hts, hown, hK⟩ := id C
  have hS : va_S (Aw B) s.heap s.heap [] := va_S.rf
  have hinX11 : ∀ w ∈ wsX110, w ∈ wsX11_refused := by decide +kernel
  have l106 : Cond.fieldLink RX11 106 "LeaseGatesModel" "refusal" "I" ∈ wsX11_refused := by decide +kernel
  have hl : lv_has ls 2 [(0, .ref a0), (1, .int x)] := hl
  refine lv_aload_n hx hb dX11_refused_0 rfl (lv_at hl 0 rfl) ?_
  refine lv_iload_n hx hb dX11_refused_1 rfl (lv_at hl 1 rfl) ?_
  refine p_1100 C hinX11 hW hS hM.1 l106 dX11_refused_2 (fun S1 H locs e1 hW hS => ?_)
  subst e1
  refine lv_iload_n hx hb dX11_refused_5 rfl (lv_at hl 1 rfl) ?_
  refine lv_if_le (tgt := 13) hx hb dX11_refused_6 (by decide) (fun c_6 => ?_) (fun c_6 => ?_)
  · refine lv_iconst (v := 0) hx hb dX11_refused_13 (by decide) ?_
    exact k_zret C hr hlk hW hS hB ⟨by simp [*], rfl⟩ (by decide) (Nat.le_refl _) (Nat.le_refl _) dX11_refused_14
  · refine lv_iconst (v := 1) hx hb dX11_refused_9 (by decide) ?_
    refine lv_goto (tgt := 14) hx hb dX11_refused_10 (by decide) ?_
    exact k_zret C hr hlk hW hS hB ⟨by simp [*], rfl⟩ (by decide) (Nat.le_refl _) (Nat.le_refl _) dX11_refused_14
set_option maxRecDepth 100000 in
set_option maxHeartbeats 4000000 in
theorem c_X11_isIn {l : Launch} {D : va_G} {cy : Nat → ClassId} {B : Nat} {S : PS} {v lo hi : Int32}  : KI l yX11_isIn wsX11_isIn ({ frames := 0, cells := 0, slots := 0, locals := 0 }) D cy B [.int v, .int lo, .int hi] S (fun r S2 => r = (if lo ≤ v ∧ v ≤ hi then 1 else 0) ∧ S2 = S) 0 0 := by
  refine k_body (own := RX11) (cc := cX11_isIn) (maxL := 3) (ret := (some .boolean)) rfl (by decide) rfl (Nat.le_of_ble_eq_true rfl) ?_
  intro p e s m below meth c C hml hr hlk hnm hB hW ls hl
  obtain ⟨hx, hb, hts, hown, hK⟩ := id C
  have hS : va_S (Aw B) s.heap s.heap [] := va_S.rf
  have hl : lv_has ls 3 [(0, .int v), (1, .int lo), (2, .int hi)] := hl
  refine lv_iload_n hx hb dX11_isIn_0 rfl (lv_at hl 0 rfl) ?_
  refine lv_iload_n hx hb dX11_isIn_1 rfl (lv_at hl 1 rfl) ?_
  refine lv_icmp_lt (tgt := 14) hx hb dX11_isIn_2 (by decide) (fun c_2 => ?_) (fun c_2 => ?_)
  · refine lv_iconst (v := 0) hx hb dX11_isIn_14 (by decide) ?_
    exact k_zret C hr hlk hW hS hB ⟨by simp [*], rfl⟩ (by decide) (Nat.le_refl _) (Nat.le_refl _) dX11_isIn_15
  · refine lv_iload_n hx hb dX11_isIn_5 rfl (lv_at hl 0 rfl) ?_
    refine lv_iload_n hx hb dX11_isIn_6 rfl (lv_at hl 2 rfl) ?_
    refine lv_icmp_gt (tgt := 14) hx hb dX11_isIn_7 (by decide) (fun c_7 => ?_) (fun c_7 => ?_)
    · refine lv_iconst (v := 0) hx hb dX11_isIn_14 (by decide) ?_
      exact k_zret C hr hlk hW hS hB ⟨by simp [*], rfl⟩ (by decide) (Nat.le_refl _) (Nat.le_refl _) dX11_isIn_15
    · refine lv_iconst (v := 1) hx hb dX11_isIn_10 (by decide) ?_
      refine lv_goto (tgt := 15) hx hb dX11_isIn_11 (by decide) ?_
      exact k_zret C hr hlk hW hS hB ⟨by simp [*], rfl⟩ (by decide) (Nat.le_refl _) (Nat.le_refl _) dX11_isIn_15
set_option maxRecDepth 100000 in
set_option maxHeartbeats 4000000 in
theorem c_X11_clockOf {l : Launch} {D : va_G} {cy : Nat → ClassId} {B : Nat} {S : PS} {a0 : Nat} {t : Nat → Nat} {k : Nat} (hM : MAt S a0 t) (hk : k < 7) : KI l yX11_clockOf wsX11_clockOf ({ frames := 0, cells := 0, slots := 0, locals := 0 }) D cy B [.ref a0, .int (nI k)] S (fun r S2 => r = (aJ S (t 1) k / 1000).toInt32 ∧ S2 = S) 0 0 := by
  refine k_body (own := RX11) (cc := cX11_clockOf) (maxL := 2) (ret := (some .int)) rfl (by decide) rfl (Nat.le_of_ble_eq_true rfl) ?_
  intro p e s m below meth c C hml hr hlk hnm hB hW ls hl
  obtain ⟨hx, hb, hts, hown, hK⟩ := id C
  have hS : va_S (Aw B) s.heap s.heap [] := va_S.rf
  have hinX11 : ∀ w ∈ wsX110, w ∈ wsX11_clockOf := by decide +kernel
  have l7 : Cond.fieldLink RX11 7 "LeaseGatesModel" "gone" "[J" ∈ wsX11_clockOf := by decide +kernel
  have l109 : Cond.constantLong RX11 109 (1000) ∈ wsX11_clockOf := by decide +kernel
  have hl : lv_has ls 2 [(0, .ref a0), (1, .int (nI k))] := hl
  refine lv_aload_n hx hb dX11_clockOf_0 rfl (lv_at hl 0 rfl) ?_
  refine g_1101 C hinX11 hW hM.1 (mA_1 hM) l7 dX11_clockOf_1 ?_
  refine lv_iload_n hx hb dX11_clockOf_4 rfl (lv_at hl 1 rfl) ?_
  refine a_Jload C hW (j := k) (mK_1 hM) (mN_1 hM) rfl (by omega) (by omega) dX11_clockOf_5 ?_
  refine lv_ldc2 hx hb hown (hts _ l109) dX11_clockOf_6 ?_
  refine lv_ldiv hx hb dX11_clockOf_9 (by decide) ?_
  refine lv_l2i (v := ((aJ S (t 1) k) / 1000).toInt32) hx hb dX11_clockOf_10 rfl ?_
  exact k_iret C hr hlk hW hS hB ⟨rfl, rfl⟩ (Nat.le_refl _) (Nat.le_refl _) dX11_clockOf_11
set_option maxRecDepth 100000 in
set_option maxHeartbeats 4000000 in
theorem c_X11_liveTime {l : Launch} {D : va_G} {cy : Nat → ClassId} {B : Nat} {S : PS} {x : Int32}  : KI l yX11_liveTime wsX11_liveTime ({ frames := 0, cells := 0, slots := 0, locals := 0 }) D cy B [.int x] S (fun r S2 => r = 998 * x / 1000 ∧ S2 = S) 0 0 := by
  refine k_body (own := RX11) (cc := cX11_liveTime) (maxL := 1) (ret := (some .int)) rfl (by decide) rfl (Nat.le_of_ble_eq_true rfl) ?_
  intro p e s m below meth c C hml hr hlk hnm hB hW ls hl
  obtain ⟨hx, hb, hts, hown, hK⟩ := id C
  have hS : va_S (Aw B) s.heap s.heap [] := va_S.rf
  have hl : lv_has ls 1 [(0, .int x)] := hl
  refine lv_sipush (v := 998) hx hb dX11_liveTime_0 (by decide) ?_
  refine lv_iload_n hx hb dX11_liveTime_3 rfl (lv_at hl 0 rfl) ?_
  refine lv_imul hx hb dX11_liveTime_4 ?_
  refine lv_sipush (v := 1000) hx hb dX11_liveTime_5 (by decide) ?_
  refine lv_idiv hx hb dX11_liveTime_8 (by decide) ?_
  exact k_iret C hr hlk hW hS hB ⟨rfl, rfl⟩ (Nat.le_refl _) (Nat.le_refl _) dX11_liveTime_9
/-- what is on loan of a key: the sum over the first n -/
def mLent (lk lt : Nat → Int32) (key : Int32) : Nat → Int32
  | 0 => 0
  | n + 1 => if lk n = key then mLent lk lt key n + lt n else mLent lk lt key n
set_option maxRecDepth 100000 in
set_option maxHeartbeats 4000000 in
theorem c_X11_lent {l : Launch} {D : va_G} {cy : Nat → ClassId} {B : Nat} {S : PS} {a0 : Nat} {t : Nat → Nat} {n : Nat} {key : Int32} (hM : MAt S a0 t) (hn : fI S 1107 a0 = nI n) (hn3 : n ≤ 300) : KI l yX11_lent wsX11_lent ({ frames := 0, cells := 0, slots := 0, locals := 0 }) D cy B [.ref a0, .int key] S (fun r S2 => r = mLent (aI S (t 8)) (aI S (t 9)) key n ∧ S2 = S) 0 0 := by
  refine k_body (own := RX11) (cc := cX11_lent) (maxL := 4) (ret := (some .int)) rfl (by decide) rfl (Nat.le_of_ble_eq_true rfl) ?_
  intro p e s m below meth c C hml hr hlk hnm hB hW ls hl
  obtain ⟨hx, hb, hts, hown, hK⟩ := id C
  have hS : va_S (Aw B) s.heap s.heap [] := va_S.rf
  have hinX11 : ∀ w ∈ wsX110, w ∈ wsX11_lent := by decide +kernel
  have l29 : Cond.fieldLink RX11 29 "LeaseGatesModel" "loanKey" "[I" ∈ wsX11_lent := by decide +kernel
  have l32 : Cond.fieldLink RX11 32 "LeaseGatesModel" "loanTokens" "[I" ∈ wsX11_lent := by decide +kernel
  have l111 : Cond.fieldLink RX11 111 "LeaseGatesModel" "loans" "I" ∈ wsX11_lent := by decide +kernel
  have hl : lv_has ls 4 [(0, .ref a0), (1, .int key)] := hl
  refine lv_iconst (v := 0) hx hb dX11_lent_0 (by decide) ?_
  refine lv_istore_n (lv' := [(2, .int 0), (0, .ref a0), (1, .int key)]) hx hb dX11_lent_1 rfl hl (by decide) rfl (fun ls hl => ?_)
  refine lv_iconst (v := 0) hx hb dX11_lent_2 (by decide) ?_
  refine lv_istore_n (lv' := [(3, .int 0), (2, .int 0), (0, .ref a0), (1, .int key)]) hx hb dX11_lent_3 rfl hl (by decide) rfl (fun ls hl => ?_)
  have lp : ∀ (d k : Nat) (x2 : Int32) (ls : Array Slot), k ≤ n → n - k < d → x2 = mLent (aI S (t 8)) (aI S (t 9)) key k → lv_has ls 4 [(0, .ref a0), (1, .int key), (2, .int x2), (3, .int (nI k))] → W p l e ({ frames := 0, cells := 0, slots := 0, locals := 0 }) s m [.ref a0, .int key].toArray below meth c s.heap [] 0 0 (MQ below (va_Qi (fun r S2 => r = mLent (aI S (t 8)) (aI S (t 9)) key n ∧ S2 = S) (PreW D cy B) (Aw B)) [.ref a0, .int key].toArray s 0 0 (Aw B)) (F0 m 4 ls []) := by
    intro d
    induction d with
    | zero => intro k x2 ls _ hd; exact absurd hd (Nat.not_lt_zero _)
    | succ d ih =>
      intro k x2 ls hk hd e2 hl
      refine lv_iload_n hx hb dX11_lent_4 rfl (lv_at hl 3 rfl) ?_
      refine lv_aload_n hx hb dX11_lent_5 rfl (lv_at hl 0 rfl) ?_
      refine g_1107 C hinX11 hW hM.1 l111 dX11_lent_6 ?_
      refine top_i (show fI S 1107 a0 = nI n from hn) ?_
      refine lv_icmp_ge (tgt := 41) hx hb dX11_lent_9 (by decide) (fun c_9 => ?_) (fun c_9 => ?_)
      · have q_9 : n ≤ k := (nI_leI (a := n) (b := k) (by omega) (by omega)).mp c_9
        refine lv_iload_n hx hb dX11_lent_41 rfl (lv_at hl 2 rfl) ?_
        exact k_iret C hr hlk hW hS hB ⟨by rw [e2, show k = n by omega], rfl⟩ (Nat.le_refl _) (Nat.le_refl _) dX11_lent_42
      · have q_9 : ¬ (n ≤ k) := fun z => c_9 ((nI_leI (a := n) (b := k) (by omega) (by omega)).mpr z)
        refine lv_aload_n hx hb dX11_lent_12 rfl (lv_at hl 0 rfl) ?_
        refine g_1108 C hinX11 hW hM.1 (mA_8 hM) l29 dX11_lent_13 ?_
        refine lv_iload_n hx hb dX11_lent_16 rfl (lv_at hl 3 rfl) ?_
        refine a_Iload C hW (j := k) (mK_8 hM) (mN_8 hM) rfl (by omega) (by omega) dX11_lent_17 ?_
        refine lv_iload_n hx hb dX11_lent_18 rfl (lv_at hl 1 rfl) ?_
        refine lv_icmp_ne (tgt := 33) hx hb dX11_lent_19 (by decide) (fun c_19 => ?_) (fun c_19 => ?_)
        · refine lv_iload_n hx hb dX11_lent_33 rfl (lv_at hl 2 rfl) ?_
          refine lv_istore_n (lv' := [(2, .int x2), (0, .ref a0), (1, .int key), (3, .int (nI k))]) hx hb dX11_lent_34 rfl hl (by decide) rfl (fun ls hl => ?_)
          refine lv_iinc (v := nI (k + 1)) (lv' := [(3, .int (nI (k + 1))), (2, .int x2), (0, .ref a0), (1, .int key)]) hx hb dX11_lent_35 hl (k := 3) rfl (nI_add k 1) (by decide) rfl (fun ls hl => ?_)
          refine lv_goto (tgt := 4) hx hb dX11_lent_38 (by decide) ?_
          exact ih (k + 1) _ ls (by omega) (by omega) (by rw [e2]; simp [mLent, c_19]) (lv_sub hl [2, 3, 1, 0] rfl)
        · refine lv_iload_n hx hb dX11_lent_22 rfl (lv_at hl 2 rfl) ?_
          refine lv_aload_n hx hb dX11_lent_23 rfl (lv_at hl 0 rfl) ?_
          refine g_1109 C hinX11 hW hM.1 (mA_9 hM) l32 dX11_lent_24 ?_
          refine lv_iload_n hx hb dX11_lent_27 rfl (lv_at hl 3 rfl) ?_
          refine a_Iload C hW (j := k) (mK_9 hM) (mN_9 hM) rfl (by omega) (by omega) dX11_lent_28 ?_
          refine lv_iadd hx hb dX11_lent_29 ?_
          refine lv_goto (tgt := 34) hx hb dX11_lent_30 (by decide) ?_
          refine lv_istore_n (lv' := [(2, .int (x2 + (aI S (t 9) k))), (0, .ref a0), (1, .int key), (3, .int (nI k))]) hx hb dX11_lent_34 rfl hl (by decide) rfl (fun ls hl => ?_)
          refine lv_iinc (v := nI (k + 1)) (lv' := [(3, .int (nI (k + 1))), (2, .int (x2 + (aI S (t 9) k))), (0, .ref a0), (1, .int key)]) hx hb dX11_lent_35 hl (k := 3) rfl (nI_add k 1) (by decide) rfl (fun ls hl => ?_)
          refine lv_goto (tgt := 4) hx hb dX11_lent_38 (by decide) ?_
          exact ih (k + 1) _ ls (by omega) (by omega) (by rw [e2]; simp [mLent, c_19]) (lv_sub hl [2, 3, 1, 0] rfl)
  exact lp (n - 0 + 1) 0 0 ls (by omega) (by omega) rfl (lv_sub hl [2, 3, 1, 0] rfl)
