def mTab : List (Nat × Nat × Nat) := [(1, 14, 7), (2, 13, 7), (3, 13, 8), (4, 13, 8), (5, 14, 8), (6, 13, 8), (8, 13, 300), (9, 13, 300), (10, 13, 300), (12, 13, 6), (13, 13, 48), (14, 13, 48), (15, 13, 48), (16, 13, 48), (17, 15, 48), (18, 13, 48), (19, 13, 48), (20, 13, 6), (21, 13, 48), (22, 13, 48), (23, 13, 48), (24, 15, 48), (25, 13, 48), (26, 13, 48), (27, 13, 300), (28, 13, 300), (29, 13, 300), (30, 13, 300), (32, 13, 2400), (33, 15, 300)]
def inTab (j : Nat) : Bool := (Nat.ble 1 j && Nat.ble j 6) || (Nat.ble 8 j && Nat.ble j 10) || (Nat.ble 12 j && Nat.ble j 30) || Nat.beq j 32 || Nat.beq j 33
/-- the reference's object at a, its arrays at t -/
def MAt (S : PS) (a : Nat) (t : Nat → Nat) : Prop := IsAt S 11 a ∧ (∀ q ∈ mTab, fR S (1100 + q.1) a = some (t q.1) ∧ IsAt S q.2.1 (t q.1) ∧ aN S (t q.1) = q.2.2) ∧ ∀ i j, inTab i = true → inTab j = true → t i = t j → i = j
theorem mA_1 {S : PS} {a : Nat} {t : Nat → Nat} (h : MAt S a t) : fR S 1101 a = some (t 1) := (h.2.1 (1, 14, 7) (by decide)).1
theorem mK_1 {S : PS} {a : Nat} {t : Nat → Nat} (h : MAt S a t) : IsAt S 14 (t 1) := (h.2.1 (1, 14, 7) (by decide)).2.1
theorem mN_1 {S : PS} {a : Nat} {t : Nat → Nat} (h : MAt S a t) : aN S (t 1) = 7 := (h.2.1 (1, 14, 7) (by decide)).2.2
theorem mA_2 {S : PS} {a : Nat} {t : Nat → Nat} (h : MAt S a t) : fR S 1102 a = some (t 2) := (h.2.1 (2, 13, 7) (by decide)).1
theorem mK_2 {S : PS} {a : Nat} {t : Nat → Nat} (h : MAt S a t) : IsAt S 13 (t 2) := (h.2.1 (2, 13, 7) (by decide)).2.1
theorem mN_2 {S : PS} {a : Nat} {t : Nat → Nat} (h : MAt S a t) : aN S (t 2) = 7 := (h.2.1 (2, 13, 7) (by decide)).2.2
theorem mA_3 {S : PS} {a : Nat} {t : Nat → Nat} (h : MAt S a t) : fR S 1103 a = some (t 3) := (h.2.1 (3, 13, 8) (by decide)).1
theorem mK_3 {S : PS} {a : Nat} {t : Nat → Nat} (h : MAt S a t) : IsAt S 13 (t 3) := (h.2.1 (3, 13, 8) (by decide)).2.1
theorem mN_3 {S : PS} {a : Nat} {t : Nat → Nat} (h : MAt S a t) : aN S (t 3) = 8 := (h.2.1 (3, 13, 8) (by decide)).2.2
theorem mA_4 {S : PS} {a : Nat} {t : Nat → Nat} (h : MAt S a t) : fR S 1104 a = some (t 4) := (h.2.1 (4, 13, 8) (by decide)).1
theorem mK_4 {S : PS} {a : Nat} {t : Nat → Nat} (h : MAt S a t) : IsAt S 13 (t 4) := (h.2.1 (4, 13, 8) (by decide)).2.1
theorem mN_4 {S : PS} {a : Nat} {t : Nat → Nat} (h : MAt S a t) : aN S (t 4) = 8 := (h.2.1 (4, 13, 8) (by decide)).2.2
theorem mA_5 {S : PS} {a : Nat} {t : Nat → Nat} (h : MAt S a t) : fR S 1105 a = some (t 5) := (h.2.1 (5, 14, 8) (by decide)).1
theorem mK_5 {S : PS} {a : Nat} {t : Nat → Nat} (h : MAt S a t) : IsAt S 14 (t 5) := (h.2.1 (5, 14, 8) (by decide)).2.1
theorem mN_5 {S : PS} {a : Nat} {t : Nat → Nat} (h : MAt S a t) : aN S (t 5) = 8 := (h.2.1 (5, 14, 8) (by decide)).2.2
theorem mA_6 {S : PS} {a : Nat} {t : Nat → Nat} (h : MAt S a t) : fR S 1106 a = some (t 6) := (h.2.1 (6, 13, 8) (by decide)).1
theorem mK_6 {S : PS} {a : Nat} {t : Nat → Nat} (h : MAt S a t) : IsAt S 13 (t 6) := (h.2.1 (6, 13, 8) (by decide)).2.1
theorem mN_6 {S : PS} {a : Nat} {t : Nat → Nat} (h : MAt S a t) : aN S (t 6) = 8 := (h.2.1 (6, 13, 8) (by decide)).2.2
theorem mA_8 {S : PS} {a : Nat} {t : Nat → Nat} (h : MAt S a t) : fR S 1108 a = some (t 8) := (h.2.1 (8, 13, 300) (by decide)).1
theorem mK_8 {S : PS} {a : Nat} {t : Nat → Nat} (h : MAt S a t) : IsAt S 13 (t 8) := (h.2.1 (8, 13, 300) (by decide)).2.1
theorem mN_8 {S : PS} {a : Nat} {t : Nat → Nat} (h : MAt S a t) : aN S (t 8) = 300 := (h.2.1 (8, 13, 300) (by decide)).2.2
theorem mA_9 {S : PS} {a : Nat} {t : Nat → Nat} (h : MAt S a t) : fR S 1109 a = some (t 9) := (h.2.1 (9, 13, 300) (by decide)).1
theorem mK_9 {S : PS} {a : Nat} {t : Nat → Nat} (h : MAt S a t) : IsAt S 13 (t 9) := (h.2.1 (9, 13, 300) (by decide)).2.1
theorem mN_9 {S : PS} {a : Nat} {t : Nat → Nat} (h : MAt S a t) : aN S (t 9) = 300 := (h.2.1 (9, 13, 300) (by decide)).2.2
theorem mA_10 {S : PS} {a : Nat} {t : Nat → Nat} (h : MAt S a t) : fR S 1110 a = some (t 10) := (h.2.1 (10, 13, 300) (by decide)).1
theorem mK_10 {S : PS} {a : Nat} {t : Nat → Nat} (h : MAt S a t) : IsAt S 13 (t 10) := (h.2.1 (10, 13, 300) (by decide)).2.1
theorem mN_10 {S : PS} {a : Nat} {t : Nat → Nat} (h : MAt S a t) : aN S (t 10) = 300 := (h.2.1 (10, 13, 300) (by decide)).2.2
theorem mA_12 {S : PS} {a : Nat} {t : Nat → Nat} (h : MAt S a t) : fR S 1112 a = some (t 12) := (h.2.1 (12, 13, 6) (by decide)).1
theorem mK_12 {S : PS} {a : Nat} {t : Nat → Nat} (h : MAt S a t) : IsAt S 13 (t 12) := (h.2.1 (12, 13, 6) (by decide)).2.1
theorem mN_12 {S : PS} {a : Nat} {t : Nat → Nat} (h : MAt S a t) : aN S (t 12) = 6 := (h.2.1 (12, 13, 6) (by decide)).2.2
theorem mA_13 {S : PS} {a : Nat} {t : Nat → Nat} (h : MAt S a t) : fR S 1113 a = some (t 13) := (h.2.1 (13, 13, 48) (by decide)).1
theorem mK_13 {S : PS} {a : Nat} {t : Nat → Nat} (h : MAt S a t) : IsAt S 13 (t 13) := (h.2.1 (13, 13, 48) (by decide)).2.1
theorem mN_13 {S : PS} {a : Nat} {t : Nat → Nat} (h : MAt S a t) : aN S (t 13) = 48 := (h.2.1 (13, 13, 48) (by decide)).2.2
theorem mA_14 {S : PS} {a : Nat} {t : Nat → Nat} (h : MAt S a t) : fR S 1114 a = some (t 14) := (h.2.1 (14, 13, 48) (by decide)).1
theorem mK_14 {S : PS} {a : Nat} {t : Nat → Nat} (h : MAt S a t) : IsAt S 13 (t 14) := (h.2.1 (14, 13, 48) (by decide)).2.1
theorem mN_14 {S : PS} {a : Nat} {t : Nat → Nat} (h : MAt S a t) : aN S (t 14) = 48 := (h.2.1 (14, 13, 48) (by decide)).2.2
theorem mA_15 {S : PS} {a : Nat} {t : Nat → Nat} (h : MAt S a t) : fR S 1115 a = some (t 15) := (h.2.1 (15, 13, 48) (by decide)).1
theorem mK_15 {S : PS} {a : Nat} {t : Nat → Nat} (h : MAt S a t) : IsAt S 13 (t 15) := (h.2.1 (15, 13, 48) (by decide)).2.1
theorem mN_15 {S : PS} {a : Nat} {t : Nat → Nat} (h : MAt S a t) : aN S (t 15) = 48 := (h.2.1 (15, 13, 48) (by decide)).2.2
theorem mA_16 {S : PS} {a : Nat} {t : Nat → Nat} (h : MAt S a t) : fR S 1116 a = some (t 16) := (h.2.1 (16, 13, 48) (by decide)).1
theorem mK_16 {S : PS} {a : Nat} {t : Nat → Nat} (h : MAt S a t) : IsAt S 13 (t 16) := (h.2.1 (16, 13, 48) (by decide)).2.1
theorem mN_16 {S : PS} {a : Nat} {t : Nat → Nat} (h : MAt S a t) : aN S (t 16) = 48 := (h.2.1 (16, 13, 48) (by decide)).2.2
theorem mA_17 {S : PS} {a : Nat} {t : Nat → Nat} (h : MAt S a t) : fR S 1117 a = some (t 17) := (h.2.1 (17, 15, 48) (by decide)).1
theorem mK_17 {S : PS} {a : Nat} {t : Nat → Nat} (h : MAt S a t) : IsAt S 15 (t 17) := (h.2.1 (17, 15, 48) (by decide)).2.1
theorem mN_17 {S : PS} {a : Nat} {t : Nat → Nat} (h : MAt S a t) : aN S (t 17) = 48 := (h.2.1 (17, 15, 48) (by decide)).2.2
theorem mA_18 {S : PS} {a : Nat} {t : Nat → Nat} (h : MAt S a t) : fR S 1118 a = some (t 18) := (h.2.1 (18, 13, 48) (by decide)).1
theorem mK_18 {S : PS} {a : Nat} {t : Nat → Nat} (h : MAt S a t) : IsAt S 13 (t 18) := (h.2.1 (18, 13, 48) (by decide)).2.1
theorem mN_18 {S : PS} {a : Nat} {t : Nat → Nat} (h : MAt S a t) : aN S (t 18) = 48 := (h.2.1 (18, 13, 48) (by decide)).2.2
theorem mA_19 {S : PS} {a : Nat} {t : Nat → Nat} (h : MAt S a t) : fR S 1119 a = some (t 19) := (h.2.1 (19, 13, 48) (by decide)).1
theorem mK_19 {S : PS} {a : Nat} {t : Nat → Nat} (h : MAt S a t) : IsAt S 13 (t 19) := (h.2.1 (19, 13, 48) (by decide)).2.1
theorem mN_19 {S : PS} {a : Nat} {t : Nat → Nat} (h : MAt S a t) : aN S (t 19) = 48 := (h.2.1 (19, 13, 48) (by decide)).2.2
theorem mA_20 {S : PS} {a : Nat} {t : Nat → Nat} (h : MAt S a t) : fR S 1120 a = some (t 20) := (h.2.1 (20, 13, 6) (by decide)).1
theorem mK_20 {S : PS} {a : Nat} {t : Nat → Nat} (h : MAt S a t) : IsAt S 13 (t 20) := (h.2.1 (20, 13, 6) (by decide)).2.1
theorem mN_20 {S : PS} {a : Nat} {t : Nat → Nat} (h : MAt S a t) : aN S (t 20) = 6 := (h.2.1 (20, 13, 6) (by decide)).2.2
theorem mA_21 {S : PS} {a : Nat} {t : Nat → Nat} (h : MAt S a t) : fR S 1121 a = some (t 21) := (h.2.1 (21, 13, 48) (by decide)).1
theorem mK_21 {S : PS} {a : Nat} {t : Nat → Nat} (h : MAt S a t) : IsAt S 13 (t 21) := (h.2.1 (21, 13, 48) (by decide)).2.1
theorem mN_21 {S : PS} {a : Nat} {t : Nat → Nat} (h : MAt S a t) : aN S (t 21) = 48 := (h.2.1 (21, 13, 48) (by decide)).2.2
theorem mA_22 {S : PS} {a : Nat} {t : Nat → Nat} (h : MAt S a t) : fR S 1122 a = some (t 22) := (h.2.1 (22, 13, 48) (by decide)).1
theorem mK_22 {S : PS} {a : Nat} {t : Nat → Nat} (h : MAt S a t) : IsAt S 13 (t 22) := (h.2.1 (22, 13, 48) (by decide)).2.1
theorem mN_22 {S : PS} {a : Nat} {t : Nat → Nat} (h : MAt S a t) : aN S (t 22) = 48 := (h.2.1 (22, 13, 48) (by decide)).2.2
theorem mA_23 {S : PS} {a : Nat} {t : Nat → Nat} (h : MAt S a t) : fR S 1123 a = some (t 23) := (h.2.1 (23, 13, 48) (by decide)).1
theorem mK_23 {S : PS} {a : Nat} {t : Nat → Nat} (h : MAt S a t) : IsAt S 13 (t 23) := (h.2.1 (23, 13, 48) (by decide)).2.1
theorem mN_23 {S : PS} {a : Nat} {t : Nat → Nat} (h : MAt S a t) : aN S (t 23) = 48 := (h.2.1 (23, 13, 48) (by decide)).2.2
theorem mA_24 {S : PS} {a : Nat} {t : Nat → Nat} (h : MAt S a t) : fR S 1124 a = some (t 24) := (h.2.1 (24, 15, 48) (by decide)).1
theorem mK_24 {S : PS} {a : Nat} {t : Nat → Nat} (h : MAt S a t) : IsAt S 15 (t 24) := (h.2.1 (24, 15, 48) (by decide)).2.1
theorem mN_24 {S : PS} {a : Nat} {t : Nat → Nat} (h : MAt S a t) : aN S (t 24) = 48 := (h.2.1 (24, 15, 48) (by decide)).2.2
theorem mA_25 {S : PS} {a : Nat} {t : Nat → Nat} (h : MAt S a t) : fR S 1125 a = some (t 25) := (h.2.1 (25, 13, 48) (by decide)).1
theorem mK_25 {S : PS} {a : Nat} {t : Nat → Nat} (h : MAt S a t) : IsAt S 13 (t 25) := (h.2.1 (25, 13, 48) (by decide)).2.1
theorem mN_25 {S : PS} {a : Nat} {t : Nat → Nat} (h : MAt S a t) : aN S (t 25) = 48 := (h.2.1 (25, 13, 48) (by decide)).2.2
theorem mA_26 {S : PS} {a : Nat} {t : Nat → Nat} (h : MAt S a t) : fR S 1126 a = some (t 26) := (h.2.1 (26, 13, 48) (by decide)).1
theorem mK_26 {S : PS} {a : Nat} {t : Nat → Nat} (h : MAt S a t) : IsAt S 13 (t 26) := (h.2.1 (26, 13, 48) (by decide)).2.1
theorem mN_26 {S : PS} {a : Nat} {t : Nat → Nat} (h : MAt S a t) : aN S (t 26) = 48 := (h.2.1 (26, 13, 48) (by decide)).2.2
theorem mA_27 {S : PS} {a : Nat} {t : Nat → Nat} (h : MAt S a t) : fR S 1127 a = some (t 27) := (h.2.1 (27, 13, 300) (by decide)).1
theorem mK_27 {S : PS} {a : Nat} {t : Nat → Nat} (h : MAt S a t) : IsAt S 13 (t 27) := (h.2.1 (27, 13, 300) (by decide)).2.1
theorem mN_27 {S : PS} {a : Nat} {t : Nat → Nat} (h : MAt S a t) : aN S (t 27) = 300 := (h.2.1 (27, 13, 300) (by decide)).2.2
theorem mA_28 {S : PS} {a : Nat} {t : Nat → Nat} (h : MAt S a t) : fR S 1128 a = some (t 28) := (h.2.1 (28, 13, 300) (by decide)).1
theorem mK_28 {S : PS} {a : Nat} {t : Nat → Nat} (h : MAt S a t) : IsAt S 13 (t 28) := (h.2.1 (28, 13, 300) (by decide)).2.1
theorem mN_28 {S : PS} {a : Nat} {t : Nat → Nat} (h : MAt S a t) : aN S (t 28) = 300 := (h.2.1 (28, 13, 300) (by decide)).2.2
theorem mA_29 {S : PS} {a : Nat} {t : Nat → Nat} (h : MAt S a t) : fR S 1129 a = some (t 29) := (h.2.1 (29, 13, 300) (by decide)).1
theorem mK_29 {S : PS} {a : Nat} {t : Nat → Nat} (h : MAt S a t) : IsAt S 13 (t 29) := (h.2.1 (29, 13, 300) (by decide)).2.1
theorem mN_29 {S : PS} {a : Nat} {t : Nat → Nat} (h : MAt S a t) : aN S (t 29) = 300 := (h.2.1 (29, 13, 300) (by decide)).2.2
theorem mA_30 {S : PS} {a : Nat} {t : Nat → Nat} (h : MAt S a t) : fR S 1130 a = some (t 30) := (h.2.1 (30, 13, 300) (by decide)).1
theorem mK_30 {S : PS} {a : Nat} {t : Nat → Nat} (h : MAt S a t) : IsAt S 13 (t 30) := (h.2.1 (30, 13, 300) (by decide)).2.1
theorem mN_30 {S : PS} {a : Nat} {t : Nat → Nat} (h : MAt S a t) : aN S (t 30) = 300 := (h.2.1 (30, 13, 300) (by decide)).2.2
theorem mA_32 {S : PS} {a : Nat} {t : Nat → Nat} (h : MAt S a t) : fR S 1132 a = some (t 32) := (h.2.1 (32, 13, 2400) (by decide)).1
theorem mK_32 {S : PS} {a : Nat} {t : Nat → Nat} (h : MAt S a t) : IsAt S 13 (t 32) := (h.2.1 (32, 13, 2400) (by decide)).2.1
theorem mN_32 {S : PS} {a : Nat} {t : Nat → Nat} (h : MAt S a t) : aN S (t 32) = 2400 := (h.2.1 (32, 13, 2400) (by decide)).2.2
theorem mA_33 {S : PS} {a : Nat} {t : Nat → Nat} (h : MAt S a t) : fR S 1133 a = some (t 33) := (h.2.1 (33, 15, 300) (by decide)).1
theorem mK_33 {S : PS} {a : Nat} {t : Nat → Nat} (h : MAt S a t) : IsAt S 15 (t 33) := (h.2.1 (33, 15, 300) (by decide)).2.1
theorem mN_33 {S : PS} {a : Nat} {t : Nat → Nat} (h : MAt S a t) : aN S (t 33) = 300 := (h.2.1 (33, 15, 300) (by decide)).2.2
/-- the abstract state: arrays of ints and longs by number, numbers by field -/
abbrev MS : Type := (Nat → Nat → Int32) × (Nat → Nat → Int64) × (Nat → Int32)
def iI (g : MS) (j k : Nat) (v : Int32) : MS := (va_up g.1 j (va_up (g.1 j) k v), g.2)
def iL (g : MS) (j k : Nat) (v : Int64) : MS := (g.1, va_up g.2.1 j (va_up (g.2.1 j) k v), g.2.2)
def iF (g : MS) (f : Nat) (v : Int32) : MS := (g.1, g.2.1, va_up g.2.2 f v)
/-- the heap S holds the abstract state g in the reference's object at a -/
def MR (S : PS) (a : Nat) (t : Nat → Nat) (g : MS) : Prop := MAt S a t ∧ (∀ j k, inTab j = true → aI S (t j) k = g.1 j k) ∧ (∀ j k, inTab j = true → aJ S (t j) k = g.2.1 j k) ∧ ∀ f, fI S f a = g.2.2 f
theorem MR.i {S : PS} {a : Nat} {t : Nat → Nat} {g : MS} (h : MR S a t g) (j k : Nat) (hj : inTab j = true := by decide) : aI S (t j) k = g.1 j k := h.2.1 j k hj
theorem MR.l {S : PS} {a : Nat} {t : Nat → Nat} {g : MS} (h : MR S a t g) (j k : Nat) (hj : inTab j = true := by decide) : aJ S (t j) k = g.2.1 j k := h.2.2.1 j k hj
theorem MR.f {S : PS} {a : Nat} {t : Nat → Nat} {g : MS} (h : MR S a t g) (f : Nat) : fI S f a = g.2.2 f := h.2.2.2 f
theorem MR.wI {S : PS} {a : Nat} {t : Nat → Nat} {g : MS} {j k : Nat} {v : Int32} (h : MR S a t g) (hj : inTab j = true := by decide) : MR (tI S (t j) k v) a t (iI g j k v) := by
  refine ⟨h.1, fun i x hi => ?_, h.2.2.1, h.2.2.2⟩
  show aI (tI S (t j) k v) (t i) x = va_up g.1 j (va_up (g.1 j) k v) i x
  by_cases e : i = j
  · subst e
    rw [tI_s]
    by_cases e2 : x = k
    · subst e2; simp [va_up]
    · simp [va_up, e2]; exact h.i i x hi
  · rw [tI_a (fun z => e (h.1.2.2 _ _ hi hj z)), va_up_ne _ _ e]; exact h.i i x hi
theorem MR.wJ {S : PS} {a : Nat} {t : Nat → Nat} {g : MS} {j k : Nat} {v : Int64} (h : MR S a t g) (hj : inTab j = true := by decide) : MR (tJ S (t j) k v) a t (iL g j k v) := by
  refine ⟨h.1, h.2.1, fun i x hi => ?_, h.2.2.2⟩
  show aJ (tJ S (t j) k v) (t i) x = va_up g.2.1 j (va_up (g.2.1 j) k v) i x
  by_cases e : i = j
  · subst e
    rw [tJ_s]
    by_cases e2 : x = k
    · subst e2; simp [va_up]
    · simp [va_up, e2]; exact h.l i x hi
  · rw [tJ_a (fun z => e (h.1.2.2 _ _ hi hj z)), va_up_ne _ _ e]; exact h.l i x hi
theorem MR.wF {S : PS} {a : Nat} {t : Nat → Nat} {g : MS} {f : Nat} {v : Int32} (h : MR S a t g) : MR (sI S f a v) a t (iF g f v) := by
  refine ⟨h.1, h.2.1, h.2.2.1, fun x => ?_⟩
  show fI (sI S f a v) x a = va_up g.2.2 f v x
  by_cases e : x = f
  · subst e; rw [sI_s]; simp [va_up]
  · rw [sI_f e, va_up_ne _ _ e]; exact h.f x
/-- S2 is S but for the reference's cells -/
def MO (S S2 : PS) (a : Nat) (t : Nat → Nat) : Prop := pL S2 = pL S ∧ pK S2 = pK S ∧ fR S2 = fR S ∧ fJ S2 = fJ S ∧ aN S2 = aN S ∧ aQ S2 = aQ S ∧ (∀ f b, b ≠ a → fI S2 f b = fI S f b) ∧ (∀ b, (∀ j, b ≠ t j) → aI S2 b = aI S b) ∧ ∀ b, (∀ j, b ≠ t j) → aJ S2 b = aJ S b
theorem MO.rf {S : PS} {a : Nat} {t : Nat → Nat} : MO S S a t := ⟨rfl, rfl, rfl, rfl, rfl, rfl, fun _ _ _ => rfl, fun _ _ => rfl, fun _ _ => rfl⟩
theorem MO.tr {S S2 S3 : PS} {a : Nat} {t : Nat → Nat} (h : MO S S2 a t) (k : MO S2 S3 a t) : MO S S3 a t := ⟨k.1.trans h.1, k.2.1.trans h.2.1, k.2.2.1.trans h.2.2.1, k.2.2.2.1.trans h.2.2.2.1, k.2.2.2.2.1.trans h.2.2.2.2.1, k.2.2.2.2.2.1.trans h.2.2.2.2.2.1, fun f b z => (k.2.2.2.2.2.2.1 f b z).trans (h.2.2.2.2.2.2.1 f b z), fun b z => (k.2.2.2.2.2.2.2.1 b z).trans (h.2.2.2.2.2.2.2.1 b z), fun b z => (k.2.2.2.2.2.2.2.2 b z).trans (h.2.2.2.2.2.2.2.2 b z)⟩
theorem MO.wI {S S2 : PS} {a : Nat} {t : Nat → Nat} {j k : Nat} {v : Int32} (h : MO S S2 a t) : MO S (tI S2 (t j) k v) a t := h.tr ⟨rfl, rfl, rfl, rfl, rfl, rfl, fun _ _ _ => rfl, fun b z => tI_a (z j), fun _ _ => rfl⟩
theorem MO.wJ {S S2 : PS} {a : Nat} {t : Nat → Nat} {j k : Nat} {v : Int64} (h : MO S S2 a t) : MO S (tJ S2 (t j) k v) a t := h.tr ⟨rfl, rfl, rfl, rfl, rfl, rfl, fun _ _ _ => rfl, fun _ _ => rfl, fun b z => tJ_a (z j)⟩
theorem MO.wF {S S2 : PS} {a : Nat} {t : Nat → Nat} {f : Nat} {v : Int32} (h : MO S S2 a t) : MO S (sI S2 f a v) a t := h.tr ⟨rfl, rfl, rfl, rfl, rfl, rfl, fun _ b z => sI_a z, fun _ _ => rfl, fun _ _ => rfl⟩
theorem ite0 {p : Prop} [Decidable p] : ((if p then (1 : Int32) else 0) = 0) ↔ ¬ p := by by_cases h : p <;> simp [h]
theorem ite1 {p : Prop} [Decidable p] : (¬ (if p then (1 : Int32) else 0) = 0) ↔ p := by by_cases h : p <;> simp [h]
set_option maxRecDepth 100000 in
set_option maxHeartbeats 4000000 in
theorem c_X11_thrown {l : Launch} {D : va_G} {cy : Nat → ClassId} {B : Nat} {s0 : State} {S : PS} {a0 : Nat} {t : Nat → Nat} {g : MS} (hR : MR S a0 t g) : KI l yX11_thrown wsX11_thrown ({ frames := 0, cells := 0, slots := 0, locals := 0 }) D cy B s0 [.ref a0] S (fun r S2 => S2 = S ∧ r = g.2.2 1100) 0 0 := by
  refine k_body (own := RX11) (cc := cX11_thrown) (maxL := 1) (ret := (some .int)) rfl (by decide) rfl (Nat.le_of_ble_eq_true rfl) ?_
  intro p e s m below meth c C hml hr hlk hnm hB hW ls hl
  obtain ⟨hx, hb, hts, hown, hK, hEn⟩ := id C
  have hS : va_S (Aw B) s.heap s.heap [] := va_S.rf
  have hinX11 : ∀ w ∈ wsX110, w ∈ wsX11_thrown := by decide +kernel
  have l106 : Cond.fieldLink RX11 106 "LeaseGatesModel" "refusal" "I" ∈ wsX11_thrown := by decide +kernel
  have hl : lv_has ls 1 [(0, .ref a0)] := hl
  have hO : MO S S a0 t := MO.rf
  refine lv_aload_n hx hb dX11_thrown_0 rfl (lv_at hl 0 rfl) ?_
  refine g_1100 C hinX11 hW hR.1.1 l106 dX11_thrown_1 ?_
  refine top_i (show fI S 1100 a0 = g.2.2 1100 from hR.f 1100) ?_
  exact k_iret C hr hlk hW hS hB ⟨rfl, rfl⟩ (Nat.le_refl _) (Nat.le_refl _) dX11_thrown_4
set_option maxRecDepth 100000 in
set_option maxHeartbeats 4000000 in
theorem c_X11_refused {l : Launch} {D : va_G} {cy : Nat → ClassId} {B : Nat} {s0 : State} {S : PS} {a0 : Nat} {t : Nat → Nat} {g : MS} {x : Int32} (hR : MR S a0 t g) : KI l yX11_refused wsX11_refused ({ frames := 0, cells := 0, slots := 0, locals := 0 }) D cy B s0 [.ref a0, .int x] S (fun r S2 => MO S S2 a0 t ∧ MR S2 a0 t (iF g 1100 x) ∧ r = (if 0 < x then 1 else 0)) 0 0 := by
  refine k_body (own := RX11) (cc := cX11_refused) (maxL := 2) (ret := (some .boolean)) rfl (by decide) rfl (Nat.le_of_ble_eq_true rfl) ?_
  intro p e s m below meth c C hml hr hlk hnm hB hW ls hl
  obtain ⟨hx, hb, hts, hown, hK, hEn⟩ := id C
  have hS : va_S (Aw B) s.heap s.heap [] := va_S.rf
  have hinX11 : ∀ w ∈ wsX110, w ∈ wsX11_refused := by decide +kernel
  have l106 : Cond.fieldLink RX11 106 "LeaseGatesModel" "refusal" "I" ∈ wsX11_refused := by decide +kernel
  have hl : lv_has ls 2 [(0, .ref a0), (1, .int x)] := hl
  have hO : MO S S a0 t := MO.rf
  refine lv_aload_n hx hb dX11_refused_0 rfl (lv_at hl 0 rfl) ?_
  refine lv_iload_n hx hb dX11_refused_1 rfl (lv_at hl 1 rfl) ?_
  refine p_1100 C hinX11 hW hS hR.1.1 l106 dX11_refused_2 (fun S1 H locs e1 hW hS => ?_)
  have hR : MR S1 a0 t (iF g 1100 x) := by rw [e1]; exact hR.wF
  replace hO : MO S S1 a0 t := by rw [e1]; exact hO.wF
  clear e1
  refine lv_iload_n hx hb dX11_refused_5 rfl (lv_at hl 1 rfl) ?_
  refine lv_if_le (tgt := 13) hx hb dX11_refused_6 (by decide) (fun c_6 => ?_) (fun c_6 => ?_)
  · refine lv_iconst (v := 0) hx hb dX11_refused_13 (by decide) ?_
    exact k_zret C hr hlk hW hS hB ⟨hO, hR, by simp [*]⟩ (by decide) (Nat.le_refl _) (Nat.le_refl _) dX11_refused_14
  · refine lv_iconst (v := 1) hx hb dX11_refused_9 (by decide) ?_
    refine lv_goto (tgt := 14) hx hb dX11_refused_10 (by decide) ?_
    exact k_zret C hr hlk hW hS hB ⟨hO, hR, by simp [*]⟩ (by decide) (Nat.le_refl _) (Nat.le_refl _) dX11_refused_14
set_option maxRecDepth 100000 in
set_option maxHeartbeats 4000000 in
theorem c_X11_isIn {l : Launch} {D : va_G} {cy : Nat → ClassId} {B : Nat} {s0 : State} {S : PS} {v lo hi : Int32}  : KI l yX11_isIn wsX11_isIn ({ frames := 0, cells := 0, slots := 0, locals := 0 }) D cy B s0 [.int v, .int lo, .int hi] S (fun r S2 => S2 = S ∧ r = (if lo ≤ v ∧ v ≤ hi then 1 else 0)) 0 0 := by
  refine k_body (own := RX11) (cc := cX11_isIn) (maxL := 3) (ret := (some .boolean)) rfl (by decide) rfl (Nat.le_of_ble_eq_true rfl) ?_
  intro p e s m below meth c C hml hr hlk hnm hB hW ls hl
  obtain ⟨hx, hb, hts, hown, hK, hEn⟩ := id C
  have hS : va_S (Aw B) s.heap s.heap [] := va_S.rf
  have hl : lv_has ls 3 [(0, .int v), (1, .int lo), (2, .int hi)] := hl
  refine lv_iload_n hx hb dX11_isIn_0 rfl (lv_at hl 0 rfl) ?_
  refine lv_iload_n hx hb dX11_isIn_1 rfl (lv_at hl 1 rfl) ?_
  refine lv_icmp_lt (tgt := 14) hx hb dX11_isIn_2 (by decide) (fun c_2 => ?_) (fun c_2 => ?_)
  · refine lv_iconst (v := 0) hx hb dX11_isIn_14 (by decide) ?_
    exact k_zret C hr hlk hW hS hB ⟨rfl, (if_neg (fun z => by first | exact absurd z.1 (Int32.not_le.mpr c_2) | exact absurd z.2 (Int32.not_le.mpr c_7))).symm⟩ (by decide) (Nat.le_refl _) (Nat.le_refl _) dX11_isIn_15
  · refine lv_iload_n hx hb dX11_isIn_5 rfl (lv_at hl 0 rfl) ?_
    refine lv_iload_n hx hb dX11_isIn_6 rfl (lv_at hl 2 rfl) ?_
    refine lv_icmp_gt (tgt := 14) hx hb dX11_isIn_7 (by decide) (fun c_7 => ?_) (fun c_7 => ?_)
    · refine lv_iconst (v := 0) hx hb dX11_isIn_14 (by decide) ?_
      exact k_zret C hr hlk hW hS hB ⟨rfl, (if_neg (fun z => by first | exact absurd z.1 (Int32.not_le.mpr c_2) | exact absurd z.2 (Int32.not_le.mpr c_7))).symm⟩ (by decide) (Nat.le_refl _) (Nat.le_refl _) dX11_isIn_15
    · refine lv_iconst (v := 1) hx hb dX11_isIn_10 (by decide) ?_
      refine lv_goto (tgt := 15) hx hb dX11_isIn_11 (by decide) ?_
      exact k_zret C hr hlk hW hS hB ⟨rfl, (if_pos ⟨Int32.not_lt.mp c_2, Int32.not_lt.mp c_7⟩).symm⟩ (by decide) (Nat.le_refl _) (Nat.le_refl _) dX11_isIn_15
def mClk (g : MS) (k : Nat) : Int32 := (g.2.1 1 k / 1000).toInt32
set_option maxRecDepth 100000 in
set_option maxHeartbeats 4000000 in
theorem c_X11_clockOf {l : Launch} {D : va_G} {cy : Nat → ClassId} {B : Nat} {s0 : State} {S : PS} {a0 : Nat} {t : Nat → Nat} {g : MS} {k : Nat} (hR : MR S a0 t g) (hk : k < 7) : KI l yX11_clockOf wsX11_clockOf ({ frames := 0, cells := 0, slots := 0, locals := 0 }) D cy B s0 [.ref a0, .int (nI k)] S (fun r S2 => S2 = S ∧ r = mClk g k) 0 0 := by
  refine k_body (own := RX11) (cc := cX11_clockOf) (maxL := 2) (ret := (some .int)) rfl (by decide) rfl (Nat.le_of_ble_eq_true rfl) ?_
  intro p e s m below meth c C hml hr hlk hnm hB hW ls hl
  obtain ⟨hx, hb, hts, hown, hK, hEn⟩ := id C
  have hS : va_S (Aw B) s.heap s.heap [] := va_S.rf
  have hinX11 : ∀ w ∈ wsX110, w ∈ wsX11_clockOf := by decide +kernel
  have l7 : Cond.fieldLink RX11 7 "LeaseGatesModel" "gone" "[J" ∈ wsX11_clockOf := by decide +kernel
  have l109 : Cond.constantLong RX11 109 (1000) ∈ wsX11_clockOf := by decide +kernel
  have hl : lv_has ls 2 [(0, .ref a0), (1, .int (nI k))] := hl
  have hO : MO S S a0 t := MO.rf
  refine lv_aload_n hx hb dX11_clockOf_0 rfl (lv_at hl 0 rfl) ?_
  refine g_1101 C hinX11 hW hR.1.1 (mA_1 hR.1) l7 dX11_clockOf_1 ?_
  refine lv_iload_n hx hb dX11_clockOf_4 rfl (lv_at hl 1 rfl) ?_
  refine a_Jload C hW (j := k) (mK_1 hR.1) (mN_1 hR.1) rfl (by omega) (by omega) dX11_clockOf_5 ?_
  refine top_l (show aJ S (t 1) k = g.2.1 1 k from hR.l 1 k) ?_
  refine lv_ldc2 hx hb hown (hts _ l109) dX11_clockOf_6 ?_
  refine lv_ldiv hx hb dX11_clockOf_9 (by decide) ?_
  refine lv_l2i (v := ((g.2.1 1 k) / 1000).toInt32) hx hb dX11_clockOf_10 rfl ?_
  exact k_iret C hr hlk hW hS hB ⟨rfl, rfl⟩ (Nat.le_refl _) (Nat.le_refl _) dX11_clockOf_11
set_option maxRecDepth 100000 in
set_option maxHeartbeats 4000000 in
theorem c_X11_liveTime {l : Launch} {D : va_G} {cy : Nat → ClassId} {B : Nat} {s0 : State} {S : PS} {x : Int32}  : KI l yX11_liveTime wsX11_liveTime ({ frames := 0, cells := 0, slots := 0, locals := 0 }) D cy B s0 [.int x] S (fun r S2 => S2 = S ∧ r = 998 * x / 1000) 0 0 := by
  refine k_body (own := RX11) (cc := cX11_liveTime) (maxL := 1) (ret := (some .int)) rfl (by decide) rfl (Nat.le_of_ble_eq_true rfl) ?_
  intro p e s m below meth c C hml hr hlk hnm hB hW ls hl
  obtain ⟨hx, hb, hts, hown, hK, hEn⟩ := id C
  have hS : va_S (Aw B) s.heap s.heap [] := va_S.rf
  have hl : lv_has ls 1 [(0, .int x)] := hl
  refine lv_sipush (v := 998) hx hb dX11_liveTime_0 (by decide) ?_
  refine lv_iload_n hx hb dX11_liveTime_3 rfl (lv_at hl 0 rfl) ?_
  refine lv_imul hx hb dX11_liveTime_4 ?_
  refine lv_sipush (v := 1000) hx hb dX11_liveTime_5 (by decide) ?_
  refine lv_idiv hx hb dX11_liveTime_8 (by decide) ?_
  exact k_iret C hr hlk hW hS hB ⟨rfl, rfl⟩ (Nat.le_refl _) (Nat.le_refl _) dX11_liveTime_9
/-- what is on loan of a key: the sum over the first n -/
def mLent (lk lt : Nat → Int32) (key : Int32) : Nat → Int32
  | 0 => 0
  | n + 1 => if lk n = key then mLent lk lt key n + lt n else mLent lk lt key n
set_option maxRecDepth 100000 in
set_option maxHeartbeats 4000000 in
theorem c_X11_lent {l : Launch} {D : va_G} {cy : Nat → ClassId} {B : Nat} {s0 : State} {S : PS} {a0 : Nat} {t : Nat → Nat} {g : MS} {n : Nat} {key : Int32} (hR : MR S a0 t g) (hn : g.2.2 1107 = nI n) (hn3 : n ≤ 300) : KI l yX11_lent wsX11_lent ({ frames := 0, cells := 0, slots := 0, locals := 0 }) D cy B s0 [.ref a0, .int key] S (fun r S2 => S2 = S ∧ r = mLent (g.1 8) (g.1 9) key n) 0 0 := by
  refine k_body (own := RX11) (cc := cX11_lent) (maxL := 4) (ret := (some .int)) rfl (by decide) rfl (Nat.le_of_ble_eq_true rfl) ?_
  intro p e s m below meth c C hml hr hlk hnm hB hW ls hl
  obtain ⟨hx, hb, hts, hown, hK, hEn⟩ := id C
  have hS : va_S (Aw B) s.heap s.heap [] := va_S.rf
  have hinX11 : ∀ w ∈ wsX110, w ∈ wsX11_lent := by decide +kernel
  have l29 : Cond.fieldLink RX11 29 "LeaseGatesModel" "loanKey" "[I" ∈ wsX11_lent := by decide +kernel
  have l32 : Cond.fieldLink RX11 32 "LeaseGatesModel" "loanTokens" "[I" ∈ wsX11_lent := by decide +kernel
  have l111 : Cond.fieldLink RX11 111 "LeaseGatesModel" "loans" "I" ∈ wsX11_lent := by decide +kernel
  have hl : lv_has ls 4 [(0, .ref a0), (1, .int key)] := hl
  have hO : MO S S a0 t := MO.rf
  refine lv_iconst (v := 0) hx hb dX11_lent_0 (by decide) ?_
  refine lv_istore_n (lv' := [(2, .int 0), (0, .ref a0), (1, .int key)]) hx hb dX11_lent_1 rfl hl (by decide) rfl (fun ls hl => ?_)
  refine lv_iconst (v := 0) hx hb dX11_lent_2 (by decide) ?_
  refine lv_istore_n (lv' := [(3, .int 0), (2, .int 0), (0, .ref a0), (1, .int key)]) hx hb dX11_lent_3 rfl hl (by decide) rfl (fun ls hl => ?_)
  have lp : ∀ (d k : Nat) (x2 : Int32) (ls : Array Slot), k ≤ n → n - k < d → x2 = mLent (g.1 8) (g.1 9) key k → lv_has ls 4 [(0, .ref a0), (1, .int key), (2, .int x2), (3, .int (nI k))] → W p l e ({ frames := 0, cells := 0, slots := 0, locals := 0 }) s m [.ref a0, .int key].toArray below meth c s.heap [] 0 0 (MQ below (va_Qi (fun r S2 => S2 = S ∧ r = mLent (g.1 8) (g.1 9) key n) (PreW D cy B s0) (Aw B)) [.ref a0, .int key].toArray s 0 0 (Aw B)) (F0 m 4 ls []) := by
    intro d
    induction d with
    | zero => intro k x2 ls _ hd; exact absurd hd (Nat.not_lt_zero _)
    | succ d ih =>
      intro k x2 ls hk hd e2 hl
      refine lv_iload_n hx hb dX11_lent_4 rfl (lv_at hl 3 rfl) ?_
      refine lv_aload_n hx hb dX11_lent_5 rfl (lv_at hl 0 rfl) ?_
      refine g_1107 C hinX11 hW hR.1.1 l111 dX11_lent_6 ?_
      refine top_i (show fI S 1107 a0 = nI n from (hR.f 1107).trans hn) ?_
      refine lv_icmp_ge (tgt := 41) hx hb dX11_lent_9 (by decide) (fun c_9 => ?_) (fun c_9 => ?_)
      · have q_9 : n ≤ k := (nI_leI (a := n) (b := k) (by omega) (by omega)).mp c_9
        refine lv_iload_n hx hb dX11_lent_41 rfl (lv_at hl 2 rfl) ?_
        exact k_iret C hr hlk hW hS hB ⟨rfl, by rw [e2, show k = n by omega]⟩ (Nat.le_refl _) (Nat.le_refl _) dX11_lent_42
      · have q_9 : ¬ (n ≤ k) := fun z => c_9 ((nI_leI (a := n) (b := k) (by omega) (by omega)).mpr z)
        refine lv_aload_n hx hb dX11_lent_12 rfl (lv_at hl 0 rfl) ?_
        refine g_1108 C hinX11 hW hR.1.1 (mA_8 hR.1) l29 dX11_lent_13 ?_
        refine lv_iload_n hx hb dX11_lent_16 rfl (lv_at hl 3 rfl) ?_
        refine a_Iload C hW (j := k) (mK_8 hR.1) (mN_8 hR.1) rfl (by omega) (by omega) dX11_lent_17 ?_
        refine top_i (show aI S (t 8) k = g.1 8 k from hR.i 8 k) ?_
        refine lv_iload_n hx hb dX11_lent_18 rfl (lv_at hl 1 rfl) ?_
        refine lv_icmp_ne (tgt := 33) hx hb dX11_lent_19 (by decide) (fun c_19 => ?_) (fun c_19 => ?_)
        · refine lv_iload_n hx hb dX11_lent_33 rfl (lv_at hl 2 rfl) ?_
          refine lv_istore_n (lv' := [(2, .int x2), (0, .ref a0), (1, .int key), (3, .int (nI k))]) hx hb dX11_lent_34 rfl hl (by decide) rfl (fun ls hl => ?_)
          refine lv_iinc (v := nI (k + 1)) (lv' := [(3, .int (nI (k + 1))), (2, .int x2), (0, .ref a0), (1, .int key)]) hx hb dX11_lent_35 hl (k := 3) rfl (nI_add k 1) (by decide) rfl (fun ls hl => ?_)
          refine lv_goto (tgt := 4) hx hb dX11_lent_38 (by decide) ?_
          exact ih (k + 1) _ ls (by omega) (by omega) (by rw [e2]; simp [mLent, c_19]) (lv_sub hl [2, 3, 1, 0] rfl)
        · refine lv_iload_n hx hb dX11_lent_22 rfl (lv_at hl 2 rfl) ?_
          refine lv_aload_n hx hb dX11_lent_23 rfl (lv_at hl 0 rfl) ?_
          refine g_1109 C hinX11 hW hR.1.1 (mA_9 hR.1) l32 dX11_lent_24 ?_
          refine lv_iload_n hx hb dX11_lent_27 rfl (lv_at hl 3 rfl) ?_
          refine a_Iload C hW (j := k) (mK_9 hR.1) (mN_9 hR.1) rfl (by omega) (by omega) dX11_lent_28 ?_
          refine top_i (show aI S (t 9) k = g.1 9 k from hR.i 9 k) ?_
          refine lv_iadd hx hb dX11_lent_29 ?_
          refine lv_goto (tgt := 34) hx hb dX11_lent_30 (by decide) ?_
          refine lv_istore_n (lv' := [(2, .int (x2 + (g.1 9 k))), (0, .ref a0), (1, .int key), (3, .int (nI k))]) hx hb dX11_lent_34 rfl hl (by decide) rfl (fun ls hl => ?_)
          refine lv_iinc (v := nI (k + 1)) (lv' := [(3, .int (nI (k + 1))), (2, .int (x2 + (g.1 9 k))), (0, .ref a0), (1, .int key)]) hx hb dX11_lent_35 hl (k := 3) rfl (nI_add k 1) (by decide) rfl (fun ls hl => ?_)
          refine lv_goto (tgt := 4) hx hb dX11_lent_38 (by decide) ?_
          exact ih (k + 1) _ ls (by omega) (by omega) (by rw [e2]; simp [mLent, c_19]) (lv_sub hl [2, 3, 1, 0] rfl)
  exact lp (n - 0 + 1) 0 0 ls (by omega) (by omega) rfl (lv_sub hl [2, 3, 1, 0] rfl)
def fillV (most lv : Int64) : Int64 := if 0 < (if lv < most then lv else most) then (if lv < most then lv else most) else 0
def mMost (g : MS) (n k : Nat) : Int64 := 1000 * (g.1 4 k - mLent (g.1 8) (g.1 9) (nI k) n).toInt64
def mFill (g : MS) (n k : Nat) (lv : Int64) : MS := iL g 5 k (fillV (mMost g n k) lv)
set_option maxRecDepth 100000 in
set_option maxHeartbeats 4000000 in
theorem c_X11_fill {l : Launch} {D : va_G} {cy : Nat → ClassId} {B : Nat} {s0 : State} {S : PS} {a0 : Nat} {t : Nat → Nat} {g : MS} {n k : Nat} {lv : Int64} (hR : MR S a0 t g) (hn : g.2.2 1107 = nI n) (hn3 : n ≤ 300) (hk : k < 8) : KV l yX11_fill wsX11_fill ({ frames := 1, cells := 0, slots := 0, locals := 23 }) D cy B s0 [.ref a0, .int (nI k), .long lv] S (fun S2 => MO S S2 a0 t ∧ MR S2 a0 t (mFill g n k lv)) 0 0 := by
  refine k_body (own := RX11) (cc := cX11_fill) (maxL := 8) (ret := none) rfl (by decide) rfl (Nat.le_of_ble_eq_true rfl) ?_
  intro p e s m below meth c C hml hr hlk hnm hB hW ls hl
  obtain ⟨hx, hb, hts, hown, hK, hEn⟩ := id C
  have hS : va_S (Aw B) s.heap s.heap [] := va_S.rf
  have hinX11 : ∀ w ∈ wsX110, w ∈ wsX11_fill := by decide +kernel
  have l20 : Cond.fieldLink RX11 20 "LeaseGatesModel" "bursts" "[I" ∈ wsX11_fill := by decide +kernel
  have l23 : Cond.fieldLink RX11 23 "LeaseGatesModel" "levels" "[J" ∈ wsX11_fill := by decide +kernel
  have l109 : Cond.constantLong RX11 109 (1000) ∈ wsX11_fill := by decide +kernel
  have hl : lv_has ls 8 [(0, .ref a0), (1, .int (nI k)), (2, .long lv)] := hl
  have hO : MO S S a0 t := MO.rf
  refine lv_ldc2 hx hb hown (hts _ l109) dX11_fill_0 ?_
  refine lv_aload_n hx hb dX11_fill_3 rfl (lv_at hl 0 rfl) ?_
  refine g_1104 C hinX11 hW hR.1.1 (mA_4 hR.1) l20 dX11_fill_4 ?_
  refine lv_iload_n hx hb dX11_fill_7 rfl (lv_at hl 1 rfl) ?_
  refine a_Iload C hW (j := k) (mK_4 hR.1) (mN_4 hR.1) rfl (by omega) (by omega) dX11_fill_8 ?_
  refine top_i (show aI S (t 4) k = g.1 4 k from hR.i 4 k) ?_
  refine lv_aload_n hx hb dX11_fill_9 rfl (lv_at hl 0 rfl) ?_
  refine lv_iload_n hx hb dX11_fill_10 rfl (lv_at hl 1 rfl) ?_
  refine k_callVi (As := [.int (nI k)]) (rest := [.int (g.1 4 k), .long 1000]) C hml (c_X11_lent hR hn hn3) (cwV 1 hts gX11_fill_X11_lent rfl rfl rfl (by decide +kernel) ⟨by decide, by decide⟩) hW hS hB (hR.1.1).1 (pAt_11 (hR.1.1).2) rfl rfl hl.1 rfl (Nat.le_of_ble_eq_true rfl) dX11_fill_11 ⟨Nat.le_of_ble_eq_true rfl, Nat.le_of_ble_eq_true rfl⟩ (fun r9 S1 H locs hp9 hW hS => ?_)
  obtain ⟨e8, e9⟩ := hp9
  rw [e8] at hW
  subst e9
  refine lv_isub hx hb dX11_fill_14 ?_
  refine lv_i2l (v := ((g.1 4 k) - (mLent (g.1 8) (g.1 9) (nI k) n)).toInt64) hx hb dX11_fill_15 rfl ?_
  refine lv_lmul hx hb dX11_fill_16 ?_
  refine lv_lstore (lv' := [(4, .long (1000 * (((g.1 4 k) - (mLent (g.1 8) (g.1 9) (nI k) n)).toInt64))), (0, .ref a0), (1, .int (nI k)), (2, .long lv)]) hx hb dX11_fill_17 hl (by decide) rfl (fun ls hl => ?_)
  refine lv_lload_n hx hb dX11_fill_19 rfl (lv_at hl 3 rfl) ?_
  refine lv_lload hx hb dX11_fill_20 (lv_at hl 0 rfl) ?_
  refine lc_ge (tgt := 30) hx hb dX11_fill_22 dX11_fill_23 (by decide) (fun c_23 => ?_) (fun c_23 => ?_)
  · refine lv_lload hx hb dX11_fill_30 (lv_at hl 0 rfl) ?_
    refine lv_lstore (lv' := [(6, .long (1000 * (((g.1 4 k) - (mLent (g.1 8) (g.1 9) (nI k) n)).toInt64))), (4, .long (1000 * (((g.1 4 k) - (mLent (g.1 8) (g.1 9) (nI k) n)).toInt64))), (0, .ref a0), (1, .int (nI k)), (2, .long lv)]) hx hb dX11_fill_32 hl (by decide) rfl (fun ls hl => ?_)
    refine lv_aload_n hx hb dX11_fill_34 rfl (lv_at hl 2 rfl) ?_
    refine g_1105 C hinX11 hW hR.1.1 (mA_5 hR.1) l23 dX11_fill_35 ?_
    refine lv_iload_n hx hb dX11_fill_38 rfl (lv_at hl 3 rfl) ?_
    refine lv_lload hx hb dX11_fill_39 (lv_at hl 0 rfl) ?_
    refine lv_lconst (v := 0) hx hb dX11_fill_41 (by decide) ?_
    refine lc_le (tgt := 51) hx hb dX11_fill_42 dX11_fill_43 (by decide) (fun c_43 => ?_) (fun c_43 => ?_)
    · refine lv_lconst (v := 0) hx hb dX11_fill_51 (by decide) ?_
      refine a_Jstore C hW hS (j := k) (mK_5 hR.1) (mN_5 hR.1) rfl (by omega) (by omega) dX11_fill_52 (fun S2 H locs e1 hW hS => ?_)
      have hR : MR S2 a0 t (iL g 5 k 0) := by rw [e1]; exact hR.wJ
      replace hO : MO S S2 a0 t := by rw [e1]; exact hO.wJ
      clear e1
      exact k_vret C hr hlk hW hS hB ⟨hO, by unfold mFill fillV mMost; (first | rw [if_neg (Int64.not_lt.mpr c_23)] | rw [if_pos (Int64.not_le.mp c_23)]); (first | rw [if_neg (Int64.not_lt.mpr c_43)] | rw [if_pos (Int64.not_le.mp c_43)]); exact hR⟩ (Nat.le_refl _) (Nat.le_refl _) dX11_fill_53
    · refine lv_lload hx hb dX11_fill_46 (lv_at hl 0 rfl) ?_
      refine lv_goto (tgt := 52) hx hb dX11_fill_48 (by decide) ?_
      refine a_Jstore C hW hS (j := k) (mK_5 hR.1) (mN_5 hR.1) rfl (by omega) (by omega) dX11_fill_52 (fun S3 H locs e1 hW hS => ?_)
      have hR : MR S3 a0 t (iL g 5 k (1000 * (((g.1 4 k) - (mLent (g.1 8) (g.1 9) (nI k) n)).toInt64))) := by rw [e1]; exact hR.wJ
      replace hO : MO S S3 a0 t := by rw [e1]; exact hO.wJ
      clear e1
      exact k_vret C hr hlk hW hS hB ⟨hO, by unfold mFill fillV mMost; (first | rw [if_neg (Int64.not_lt.mpr c_23)] | rw [if_pos (Int64.not_le.mp c_23)]); (first | rw [if_neg (Int64.not_lt.mpr c_43)] | rw [if_pos (Int64.not_le.mp c_43)]); exact hR⟩ (Nat.le_refl _) (Nat.le_refl _) dX11_fill_53
  · refine lv_lload_n hx hb dX11_fill_26 rfl (lv_at hl 3 rfl) ?_
    refine lv_goto (tgt := 32) hx hb dX11_fill_27 (by decide) ?_
    refine lv_lstore (lv' := [(6, .long lv), (4, .long (1000 * (((g.1 4 k) - (mLent (g.1 8) (g.1 9) (nI k) n)).toInt64))), (0, .ref a0), (1, .int (nI k)), (2, .long lv)]) hx hb dX11_fill_32 hl (by decide) rfl (fun ls hl => ?_)
    refine lv_aload_n hx hb dX11_fill_34 rfl (lv_at hl 2 rfl) ?_
    refine g_1105 C hinX11 hW hR.1.1 (mA_5 hR.1) l23 dX11_fill_35 ?_
    refine lv_iload_n hx hb dX11_fill_38 rfl (lv_at hl 3 rfl) ?_
    refine lv_lload hx hb dX11_fill_39 (lv_at hl 0 rfl) ?_
    refine lv_lconst (v := 0) hx hb dX11_fill_41 (by decide) ?_
    refine lc_le (tgt := 51) hx hb dX11_fill_42 dX11_fill_43 (by decide) (fun c_43 => ?_) (fun c_43 => ?_)
    · refine lv_lconst (v := 0) hx hb dX11_fill_51 (by decide) ?_
      refine a_Jstore C hW hS (j := k) (mK_5 hR.1) (mN_5 hR.1) rfl (by omega) (by omega) dX11_fill_52 (fun S4 H locs e1 hW hS => ?_)
      have hR : MR S4 a0 t (iL g 5 k 0) := by rw [e1]; exact hR.wJ
      replace hO : MO S S4 a0 t := by rw [e1]; exact hO.wJ
      clear e1
      exact k_vret C hr hlk hW hS hB ⟨hO, by unfold mFill fillV mMost; (first | rw [if_neg (Int64.not_lt.mpr c_23)] | rw [if_pos (Int64.not_le.mp c_23)]); (first | rw [if_neg (Int64.not_lt.mpr c_43)] | rw [if_pos (Int64.not_le.mp c_43)]); exact hR⟩ (Nat.le_refl _) (Nat.le_refl _) dX11_fill_53
    · refine lv_lload hx hb dX11_fill_46 (lv_at hl 0 rfl) ?_
      refine lv_goto (tgt := 52) hx hb dX11_fill_48 (by decide) ?_
      refine a_Jstore C hW hS (j := k) (mK_5 hR.1) (mN_5 hR.1) rfl (by omega) (by omega) dX11_fill_52 (fun S5 H locs e1 hW hS => ?_)
      have hR : MR S5 a0 t (iL g 5 k lv) := by rw [e1]; exact hR.wJ
      replace hO : MO S S5 a0 t := by rw [e1]; exact hO.wJ
      clear e1
      exact k_vret C hr hlk hW hS hB ⟨hO, by unfold mFill fillV mMost; (first | rw [if_neg (Int64.not_lt.mpr c_23)] | rw [if_pos (Int64.not_le.mp c_23)]); (first | rw [if_neg (Int64.not_lt.mpr c_43)] | rw [if_pos (Int64.not_le.mp c_43)]); exact hR⟩ (Nat.le_refl _) (Nat.le_refl _) dX11_fill_53
theorem rngN {x M : Int32} (n : Nat) (hM : M.toInt = n) (h : 0 ≤ x ∧ x ≤ M) : ∃ k : Nat, k < n + 1 ∧ x = nI k := by
  obtain ⟨j, h1, h2⟩ := nI_of2 hM (fun z => by rw [Int32.lt_iff_toInt_lt] at z; have := h.1; rw [Int32.le_iff_toInt_le] at this; omega) h.2
  exact ⟨j, by omega, h2⟩
def mKeyOk (g : MS) (n k : Nat) (p1 p2 : Int32) : MS := mFill (iI (iI g 3 k p1) 4 k p2) n k (g.2.1 5 k)
def mKey (g : MS) (n : Nat) (p0 p1 p2 : Int32) : MS := if (0 ≤ p0 ∧ p0 ≤ 7) ∧ (0 ≤ p1 ∧ p1 ≤ 100000) ∧ (0 ≤ p2 ∧ p2 ≤ 1000000) then mKeyOk (iF g 1100 0) n p0.toNatClampNeg p1 p2 else iF g 1100 1
set_option maxRecDepth 100000 in
set_option maxHeartbeats 4000000 in
theorem c_X11_key {l : Launch} {D : va_G} {cy : Nat → ClassId} {B : Nat} {s0 : State} {S : PS} {a0 : Nat} {t : Nat → Nat} {g : MS} {n : Nat} {p0 p1 p2 : Int32} (hR : MR S a0 t g) (hn : g.2.2 1107 = nI n) (hn3 : n ≤ 300) : KV l yX11_key wsX11_key ({ frames := 2, cells := 0, slots := 0, locals := 50 }) D cy B s0 [.ref a0, .int p0, .int p1, .int p2] S (fun S2 => MO S S2 a0 t ∧ MR S2 a0 t (mKey g n p0 p1 p2)) 0 0 := by
  refine k_body (own := RX11) (cc := cX11_key) (maxL := 4) (ret := none) rfl (by decide) rfl (Nat.le_of_ble_eq_true rfl) ?_
  intro p e s m below meth c C hml hr hlk hnm hB hW ls hl
  obtain ⟨hx, hb, hts, hown, hK, hEn⟩ := id C
  have hS : va_S (Aw B) s.heap s.heap [] := va_S.rf
  have hinX11 : ∀ w ∈ wsX110, w ∈ wsX11_key := by decide +kernel
  have l17 : Cond.fieldLink RX11 17 "LeaseGatesModel" "rates" "[I" ∈ wsX11_key := by decide +kernel
  have l20 : Cond.fieldLink RX11 20 "LeaseGatesModel" "bursts" "[I" ∈ wsX11_key := by decide +kernel
  have l23 : Cond.fieldLink RX11 23 "LeaseGatesModel" "levels" "[J" ∈ wsX11_key := by decide +kernel
  have l122 : Cond.constant RX11 122 (100000) ∈ wsX11_key := by decide +kernel
  have l123 : Cond.constant RX11 123 (1000000) ∈ wsX11_key := by decide +kernel
  have hl : lv_has ls 4 [(0, .ref a0), (1, .int p0), (2, .int p1), (3, .int p2)] := hl
  have hO : MO S S a0 t := MO.rf
  refine lv_aload_n hx hb dX11_key_0 rfl (lv_at hl 0 rfl) ?_
  refine lv_iload_n hx hb dX11_key_1 rfl (lv_at hl 1 rfl) ?_
  refine lv_iconst (v := 0) hx hb dX11_key_2 (by decide) ?_
  refine lv_bipush (v := 7) hx hb dX11_key_3 (by decide) ?_
  refine k_callSi (As := [.int p0, .int 0, .int 7]) (rest := [.ref a0]) C hml (c_X11_isIn) (va_cwS 3 hts gX11_key_X11_isIn rfl rfl rfl (by decide +kernel) ⟨by decide, by decide⟩) hW hS hB rfl hl.1 rfl (Nat.le_of_ble_eq_true rfl) dX11_key_5 ⟨Nat.le_of_ble_eq_true rfl, Nat.le_of_ble_eq_true rfl⟩ (fun r9 S1 H locs hp9 hW hS => ?_)
  obtain ⟨e8, e9⟩ := hp9
  rw [e8] at hW
  subst e9
  refine lv_if_eq (tgt := 35) hx hb dX11_key_8 (by decide) (fun c_8 => ?_) (fun c_8 => ?_)
  · have q_8 : ¬ (0 ≤ p0 ∧ p0 ≤ 7) := ite0.mp c_8
    refine lv_iconst (v := 1) hx hb dX11_key_35 (by decide) ?_
    refine k_callVi (As := [.int 1]) (rest := []) C hml (c_X11_refused hR) (cwV 1 hts gX11_key_X11_refused rfl rfl rfl (by decide +kernel) ⟨by decide, by decide⟩) hW hS hB (hR.1.1).1 (pAt_11 (hR.1.1).2) rfl rfl hl.1 rfl (Nat.le_of_ble_eq_true rfl) dX11_key_36 ⟨Nat.le_of_ble_eq_true rfl, Nat.le_of_ble_eq_true rfl⟩ (fun r9 S2 H locs hp9 hW hS => ?_)
    obtain ⟨hO9, hR, e9⟩ := hp9
    replace hO := hO.tr hO9
    obtain rfl : r9 = 1 := e9.trans (by decide)
    clear hO9 e9
    refine lv_if_eq (tgt := 43) hx hb dX11_key_39 (by decide) (fun c9 => absurd c9 (by decide)) (fun c9 => ?_)
    exact k_vret C hr hlk hW hS hB ⟨hO, by rw [mKey, if_neg (fun z => by first | exact q_8 z.1 | exact q_18 z.2.1 | exact q_28 z.2.2)]; exact hR⟩ (Nat.le_refl _) (Nat.le_refl _) dX11_key_42
  · have q_8 : (0 ≤ p0 ∧ p0 ≤ 7) := ite1.mp c_8
    refine lv_iload_n hx hb dX11_key_11 rfl (lv_at hl 2 rfl) ?_
    refine lv_iconst (v := 0) hx hb dX11_key_12 (by decide) ?_
    refine lv_ldc hx hb hown (hts _ l122) dX11_key_13 ?_
    refine k_callSi (As := [.int p1, .int 0, .int 100000]) (rest := [.ref a0]) C hml (c_X11_isIn) (va_cwS 3 hts gX11_key_X11_isIn rfl rfl rfl (by decide +kernel) ⟨by decide, by decide⟩) hW hS hB rfl hl.1 rfl (Nat.le_of_ble_eq_true rfl) dX11_key_15 ⟨Nat.le_of_ble_eq_true rfl, Nat.le_of_ble_eq_true rfl⟩ (fun r9 S3 H locs hp9 hW hS => ?_)
    obtain ⟨e8, e9⟩ := hp9
    rw [e8] at hW
    subst e9
    refine lv_if_eq (tgt := 35) hx hb dX11_key_18 (by decide) (fun c_18 => ?_) (fun c_18 => ?_)
    · have q_18 : ¬ (0 ≤ p1 ∧ p1 ≤ 100000) := ite0.mp c_18
      refine lv_iconst (v := 1) hx hb dX11_key_35 (by decide) ?_
      refine k_callVi (As := [.int 1]) (rest := []) C hml (c_X11_refused hR) (cwV 1 hts gX11_key_X11_refused rfl rfl rfl (by decide +kernel) ⟨by decide, by decide⟩) hW hS hB (hR.1.1).1 (pAt_11 (hR.1.1).2) rfl rfl hl.1 rfl (Nat.le_of_ble_eq_true rfl) dX11_key_36 ⟨Nat.le_of_ble_eq_true rfl, Nat.le_of_ble_eq_true rfl⟩ (fun r9 S4 H locs hp9 hW hS => ?_)
      obtain ⟨hO9, hR, e9⟩ := hp9
      replace hO := hO.tr hO9
      obtain rfl : r9 = 1 := e9.trans (by decide)
      clear hO9 e9
      refine lv_if_eq (tgt := 43) hx hb dX11_key_39 (by decide) (fun c9 => absurd c9 (by decide)) (fun c9 => ?_)
      exact k_vret C hr hlk hW hS hB ⟨hO, by rw [mKey, if_neg (fun z => by first | exact q_8 z.1 | exact q_18 z.2.1 | exact q_28 z.2.2)]; exact hR⟩ (Nat.le_refl _) (Nat.le_refl _) dX11_key_42
    · have q_18 : (0 ≤ p1 ∧ p1 ≤ 100000) := ite1.mp c_18
      refine lv_iload_n hx hb dX11_key_21 rfl (lv_at hl 3 rfl) ?_
      refine lv_iconst (v := 0) hx hb dX11_key_22 (by decide) ?_
      refine lv_ldc hx hb hown (hts _ l123) dX11_key_23 ?_
      refine k_callSi (As := [.int p2, .int 0, .int 1000000]) (rest := [.ref a0]) C hml (c_X11_isIn) (va_cwS 3 hts gX11_key_X11_isIn rfl rfl rfl (by decide +kernel) ⟨by decide, by decide⟩) hW hS hB rfl hl.1 rfl (Nat.le_of_ble_eq_true rfl) dX11_key_25 ⟨Nat.le_of_ble_eq_true rfl, Nat.le_of_ble_eq_true rfl⟩ (fun r9 S5 H locs hp9 hW hS => ?_)
      obtain ⟨e8, e9⟩ := hp9
      rw [e8] at hW
      subst e9
      refine lv_if_eq (tgt := 35) hx hb dX11_key_28 (by decide) (fun c_28 => ?_) (fun c_28 => ?_)
      · have q_28 : ¬ (0 ≤ p2 ∧ p2 ≤ 1000000) := ite0.mp c_28
        refine lv_iconst (v := 1) hx hb dX11_key_35 (by decide) ?_
        refine k_callVi (As := [.int 1]) (rest := []) C hml (c_X11_refused hR) (cwV 1 hts gX11_key_X11_refused rfl rfl rfl (by decide +kernel) ⟨by decide, by decide⟩) hW hS hB (hR.1.1).1 (pAt_11 (hR.1.1).2) rfl rfl hl.1 rfl (Nat.le_of_ble_eq_true rfl) dX11_key_36 ⟨Nat.le_of_ble_eq_true rfl, Nat.le_of_ble_eq_true rfl⟩ (fun r9 S6 H locs hp9 hW hS => ?_)
        obtain ⟨hO9, hR, e9⟩ := hp9
        replace hO := hO.tr hO9
        obtain rfl : r9 = 1 := e9.trans (by decide)
        clear hO9 e9
        refine lv_if_eq (tgt := 43) hx hb dX11_key_39 (by decide) (fun c9 => absurd c9 (by decide)) (fun c9 => ?_)
        exact k_vret C hr hlk hW hS hB ⟨hO, by rw [mKey, if_neg (fun z => by first | exact q_8 z.1 | exact q_18 z.2.1 | exact q_28 z.2.2)]; exact hR⟩ (Nat.le_refl _) (Nat.le_refl _) dX11_key_42
      · have q_28 : (0 ≤ p2 ∧ p2 ≤ 1000000) := ite1.mp c_28
        refine lv_iconst (v := 0) hx hb dX11_key_31 (by decide) ?_
        refine lv_goto (tgt := 36) hx hb dX11_key_32 (by decide) ?_
        refine k_callVi (As := [.int 0]) (rest := []) C hml (c_X11_refused hR) (cwV 1 hts gX11_key_X11_refused rfl rfl rfl (by decide +kernel) ⟨by decide, by decide⟩) hW hS hB (hR.1.1).1 (pAt_11 (hR.1.1).2) rfl rfl hl.1 rfl (Nat.le_of_ble_eq_true rfl) dX11_key_36 ⟨Nat.le_of_ble_eq_true rfl, Nat.le_of_ble_eq_true rfl⟩ (fun r9 S7 H locs hp9 hW hS => ?_)
        obtain ⟨hO9, hR, e9⟩ := hp9
        replace hO := hO.tr hO9
        obtain rfl : r9 = 0 := e9.trans (by decide)
        clear hO9 e9
        refine lv_if_eq (tgt := 43) hx hb dX11_key_39 (by decide) (fun c9 => ?_) (fun c9 => absurd c9 (by decide))
        obtain ⟨k, hk, rfl⟩ := rngN 7 (by decide) q_8
        refine lv_aload_n hx hb dX11_key_43 rfl (lv_at hl 0 rfl) ?_
        refine g_1103 C hinX11 hW hR.1.1 (mA_3 hR.1) l17 dX11_key_44 ?_
        refine lv_iload_n hx hb dX11_key_47 rfl (lv_at hl 1 rfl) ?_
        refine lv_iload_n hx hb dX11_key_48 rfl (lv_at hl 2 rfl) ?_
        refine a_Istore C hW hS (j := k) (mK_3 hR.1) (mN_3 hR.1) rfl (by omega) (by omega) dX11_key_49 (fun S8 H locs e1 hW hS => ?_)
        have hR : MR S8 a0 t (iI (iF g 1100 0) 3 k p1) := by rw [e1]; exact hR.wI
        replace hO : MO S S8 a0 t := by rw [e1]; exact hO.wI
        clear e1
        refine lv_aload_n hx hb dX11_key_50 rfl (lv_at hl 0 rfl) ?_
        refine g_1104 C hinX11 hW hR.1.1 (mA_4 hR.1) l20 dX11_key_51 ?_
        refine lv_iload_n hx hb dX11_key_54 rfl (lv_at hl 1 rfl) ?_
        refine lv_iload_n hx hb dX11_key_55 rfl (lv_at hl 3 rfl) ?_
        refine a_Istore C hW hS (j := k) (mK_4 hR.1) (mN_4 hR.1) rfl (by omega) (by omega) dX11_key_56 (fun S9 H locs e1 hW hS => ?_)
        have hR : MR S9 a0 t (iI (iI (iF g 1100 0) 3 k p1) 4 k p2) := by rw [e1]; exact hR.wI
        replace hO : MO S S9 a0 t := by rw [e1]; exact hO.wI
        clear e1
        refine lv_aload_n hx hb dX11_key_57 rfl (lv_at hl 0 rfl) ?_
        refine lv_iload_n hx hb dX11_key_58 rfl (lv_at hl 1 rfl) ?_
        refine lv_aload_n hx hb dX11_key_59 rfl (lv_at hl 0 rfl) ?_
        refine g_1105 C hinX11 hW hR.1.1 (mA_5 hR.1) l23 dX11_key_60 ?_
        refine lv_iload_n hx hb dX11_key_63 rfl (lv_at hl 1 rfl) ?_
        refine a_Jload C hW (j := k) (mK_5 hR.1) (mN_5 hR.1) rfl (by omega) (by omega) dX11_key_64 ?_
        refine top_l (show aJ S9 (t 5) k = (iI (iI (iF g 1100 0) 3 k p1) 4 k p2).2.1 5 k from hR.l 5 k) ?_
        refine k_callVv (As := [.int (nI k), .long ((iI (iI (iF g 1100 0) 3 k p1) 4 k p2).2.1 5 k)]) (rest := []) C hml (c_X11_fill (k := k) hR hn hn3 (by omega)) (cwV 2 hts gX11_key_X11_fill rfl rfl rfl (by decide +kernel) ⟨by decide, by decide⟩) hW hS hB (hR.1.1).1 (pAt_11 (hR.1.1).2) rfl rfl hl.1 rfl (Nat.le_of_ble_eq_true rfl) dX11_key_65 ⟨Nat.le_of_ble_eq_true rfl, Nat.le_of_ble_eq_true rfl⟩ (fun S10 H locs hp9 hW hS => ?_)
        obtain ⟨hO9, hR⟩ := hp9
        replace hO := hO.tr hO9
        clear hO9
        exact k_vret C hr hlk hW hS hB ⟨hO, by rw [mKey, if_pos ⟨q_8, q_18, q_28⟩, nI_clamp (by omega)]; exact hR⟩ (Nat.le_refl _) (Nat.le_refl _) dX11_key_68
def mLength (g : MS) (p0 : Int32) : MS := if 10 ≤ p0 ∧ p0 ≤ 9000 then iF (iF g 1100 0) 1111 p0 else iF g 1100 1
set_option maxRecDepth 100000 in
set_option maxHeartbeats 4000000 in
theorem c_X11_length {l : Launch} {D : va_G} {cy : Nat → ClassId} {B : Nat} {s0 : State} {S : PS} {a0 : Nat} {t : Nat → Nat} {g : MS} {p0 : Int32} (hR : MR S a0 t g) : KV l yX11_length wsX11_length ({ frames := 1, cells := 0, slots := 0, locals := 22 }) D cy B s0 [.ref a0, .int p0] S (fun S2 => MO S S2 a0 t ∧ MR S2 a0 t (mLength g p0)) 0 0 := by
  refine k_body (own := RX11) (cc := cX11_length) (maxL := 2) (ret := none) rfl (by decide) rfl (Nat.le_of_ble_eq_true rfl) ?_
  intro p e s m below meth c C hml hr hlk hnm hB hW ls hl
  obtain ⟨hx, hb, hts, hown, hK, hEn⟩ := id C
  have hS : va_S (Aw B) s.heap s.heap [] := va_S.rf
  have hinX11 : ∀ w ∈ wsX110, w ∈ wsX11_length := by decide +kernel
  have l38 : Cond.fieldLink RX11 38 "LeaseGatesModel" "length" "I" ∈ wsX11_length := by decide +kernel
  have hl : lv_has ls 2 [(0, .ref a0), (1, .int p0)] := hl
  have hO : MO S S a0 t := MO.rf
  refine lv_aload_n hx hb dX11_length_0 rfl (lv_at hl 0 rfl) ?_
  refine lv_iload_n hx hb dX11_length_1 rfl (lv_at hl 1 rfl) ?_
  refine lv_bipush (v := 10) hx hb dX11_length_2 (by decide) ?_
  refine lv_sipush (v := 9000) hx hb dX11_length_4 (by decide) ?_
  refine k_callSi (As := [.int p0, .int 10, .int 9000]) (rest := [.ref a0]) C hml (c_X11_isIn) (va_cwS 3 hts gX11_length_X11_isIn rfl rfl rfl (by decide +kernel) ⟨by decide, by decide⟩) hW hS hB rfl hl.1 rfl (Nat.le_of_ble_eq_true rfl) dX11_length_7 ⟨Nat.le_of_ble_eq_true rfl, Nat.le_of_ble_eq_true rfl⟩ (fun r9 S1 H locs hp9 hW hS => ?_)
  obtain ⟨e8, e9⟩ := hp9
  rw [e8] at hW
  subst e9
  refine lv_if_eq (tgt := 17) hx hb dX11_length_10 (by decide) (fun c_10 => ?_) (fun c_10 => ?_)
  · have q_10 : ¬ (10 ≤ p0 ∧ p0 ≤ 9000) := ite0.mp c_10
    refine lv_iconst (v := 1) hx hb dX11_length_17 (by decide) ?_
    refine k_callVi (As := [.int 1]) (rest := []) C hml (c_X11_refused hR) (cwV 1 hts gX11_length_X11_refused rfl rfl rfl (by decide +kernel) ⟨by decide, by decide⟩) hW hS hB (hR.1.1).1 (pAt_11 (hR.1.1).2) rfl rfl hl.1 rfl (Nat.le_of_ble_eq_true rfl) dX11_length_18 ⟨Nat.le_of_ble_eq_true rfl, Nat.le_of_ble_eq_true rfl⟩ (fun r9 S2 H locs hp9 hW hS => ?_)
    obtain ⟨hO9, hR, e9⟩ := hp9
    replace hO := hO.tr hO9
    obtain rfl : r9 = 1 := e9.trans (by decide)
    clear hO9 e9
    refine lv_if_eq (tgt := 25) hx hb dX11_length_21 (by decide) (fun c9 => absurd c9 (by decide)) (fun c9 => ?_)
    exact k_vret C hr hlk hW hS hB ⟨hO, by rw [mLength, if_neg q_10]; exact hR⟩ (Nat.le_refl _) (Nat.le_refl _) dX11_length_24
  · have q_10 : (10 ≤ p0 ∧ p0 ≤ 9000) := ite1.mp c_10
    refine lv_iconst (v := 0) hx hb dX11_length_13 (by decide) ?_
    refine lv_goto (tgt := 18) hx hb dX11_length_14 (by decide) ?_
    refine k_callVi (As := [.int 0]) (rest := []) C hml (c_X11_refused hR) (cwV 1 hts gX11_length_X11_refused rfl rfl rfl (by decide +kernel) ⟨by decide, by decide⟩) hW hS hB (hR.1.1).1 (pAt_11 (hR.1.1).2) rfl rfl hl.1 rfl (Nat.le_of_ble_eq_true rfl) dX11_length_18 ⟨Nat.le_of_ble_eq_true rfl, Nat.le_of_ble_eq_true rfl⟩ (fun r9 S3 H locs hp9 hW hS => ?_)
    obtain ⟨hO9, hR, e9⟩ := hp9
    replace hO := hO.tr hO9
    obtain rfl : r9 = 0 := e9.trans (by decide)
    clear hO9 e9
    refine lv_if_eq (tgt := 25) hx hb dX11_length_21 (by decide) (fun c9 => ?_) (fun c9 => absurd c9 (by decide))
    refine lv_aload_n hx hb dX11_length_25 rfl (lv_at hl 0 rfl) ?_
    refine lv_iload_n hx hb dX11_length_26 rfl (lv_at hl 1 rfl) ?_
    refine p_1111 C hinX11 hW hS hR.1.1 l38 dX11_length_27 (fun S4 H locs e1 hW hS => ?_)
    have hR : MR S4 a0 t (iF (iF g 1100 0) 1111 p0) := by rw [e1]; exact hR.wF
    replace hO : MO S S4 a0 t := by rw [e1]; exact hO.wF
    clear e1
    exact k_vret C hr hlk hW hS hB ⟨hO, by rw [mLength, if_pos q_10]; exact hR⟩ (Nat.le_refl _) (Nat.le_refl _) dX11_length_30
def mWeight (g : MS) (p0 p1 p2 : Int32) : MS := if (0 ≤ p0 ∧ p0 ≤ 5) ∧ (0 ≤ p1 ∧ p1 ≤ 7) ∧ (1 ≤ p2 ∧ p2 ≤ 100) then iI (iF g 1100 0) 19 (8 * p0.toNatClampNeg + p1.toNatClampNeg) p2 else iF g 1100 1
set_option maxRecDepth 100000 in
set_option maxHeartbeats 4000000 in
theorem c_X11_weight {l : Launch} {D : va_G} {cy : Nat → ClassId} {B : Nat} {s0 : State} {S : PS} {a0 : Nat} {t : Nat → Nat} {g : MS} {p0 p1 p2 : Int32} (hR : MR S a0 t g) : KV l yX11_weight wsX11_weight ({ frames := 1, cells := 0, slots := 0, locals := 22 }) D cy B s0 [.ref a0, .int p0, .int p1, .int p2] S (fun S2 => MO S S2 a0 t ∧ MR S2 a0 t (mWeight g p0 p1 p2)) 0 0 := by
  refine k_body (own := RX11) (cc := cX11_weight) (maxL := 4) (ret := none) rfl (by decide) rfl (Nat.le_of_ble_eq_true rfl) ?_
  intro p e s m below meth c C hml hr hlk hnm hB hW ls hl
  obtain ⟨hx, hb, hts, hown, hK, hEn⟩ := id C
  have hS : va_S (Aw B) s.heap s.heap [] := va_S.rf
  have hinX11 : ∀ w ∈ wsX110, w ∈ wsX11_weight := by decide +kernel
  have l64 : Cond.fieldLink RX11 64 "LeaseGatesModel" "weights" "[I" ∈ wsX11_weight := by decide +kernel
  have hl : lv_has ls 4 [(0, .ref a0), (1, .int p0), (2, .int p1), (3, .int p2)] := hl
  have hO : MO S S a0 t := MO.rf
  refine lv_aload_n hx hb dX11_weight_0 rfl (lv_at hl 0 rfl) ?_
  refine lv_iload_n hx hb dX11_weight_1 rfl (lv_at hl 1 rfl) ?_
  refine lv_iconst (v := 0) hx hb dX11_weight_2 (by decide) ?_
  refine lv_iconst (v := 5) hx hb dX11_weight_3 (by decide) ?_
  refine k_callSi (As := [.int p0, .int 0, .int 5]) (rest := [.ref a0]) C hml (c_X11_isIn) (va_cwS 3 hts gX11_weight_X11_isIn rfl rfl rfl (by decide +kernel) ⟨by decide, by decide⟩) hW hS hB rfl hl.1 rfl (Nat.le_of_ble_eq_true rfl) dX11_weight_4 ⟨Nat.le_of_ble_eq_true rfl, Nat.le_of_ble_eq_true rfl⟩ (fun r9 S1 H locs hp9 hW hS => ?_)
  obtain ⟨e8, e9⟩ := hp9
  rw [e8] at hW
  subst e9
  refine lv_if_eq (tgt := 34) hx hb dX11_weight_7 (by decide) (fun c_7 => ?_) (fun c_7 => ?_)
  · have q_7 : ¬ (0 ≤ p0 ∧ p0 ≤ 5) := ite0.mp c_7
    refine lv_iconst (v := 1) hx hb dX11_weight_34 (by decide) ?_
    refine k_callVi (As := [.int 1]) (rest := []) C hml (c_X11_refused hR) (cwV 1 hts gX11_weight_X11_refused rfl rfl rfl (by decide +kernel) ⟨by decide, by decide⟩) hW hS hB (hR.1.1).1 (pAt_11 (hR.1.1).2) rfl rfl hl.1 rfl (Nat.le_of_ble_eq_true rfl) dX11_weight_35 ⟨Nat.le_of_ble_eq_true rfl, Nat.le_of_ble_eq_true rfl⟩ (fun r9 S2 H locs hp9 hW hS => ?_)
    obtain ⟨hO9, hR, e9⟩ := hp9
    replace hO := hO.tr hO9
    obtain rfl : r9 = 1 := e9.trans (by decide)
    clear hO9 e9
    refine lv_if_eq (tgt := 42) hx hb dX11_weight_38 (by decide) (fun c9 => absurd c9 (by decide)) (fun c9 => ?_)
    exact k_vret C hr hlk hW hS hB ⟨hO, by rw [mWeight, if_neg (fun z => by first | exact q_7 z.1 | exact q_17 z.2.1 | exact q_27 z.2.2)]; exact hR⟩ (Nat.le_refl _) (Nat.le_refl _) dX11_weight_41
  · have q_7 : (0 ≤ p0 ∧ p0 ≤ 5) := ite1.mp c_7
    refine lv_iload_n hx hb dX11_weight_10 rfl (lv_at hl 2 rfl) ?_
    refine lv_iconst (v := 0) hx hb dX11_weight_11 (by decide) ?_
    refine lv_bipush (v := 7) hx hb dX11_weight_12 (by decide) ?_
    refine k_callSi (As := [.int p1, .int 0, .int 7]) (rest := [.ref a0]) C hml (c_X11_isIn) (va_cwS 3 hts gX11_weight_X11_isIn rfl rfl rfl (by decide +kernel) ⟨by decide, by decide⟩) hW hS hB rfl hl.1 rfl (Nat.le_of_ble_eq_true rfl) dX11_weight_14 ⟨Nat.le_of_ble_eq_true rfl, Nat.le_of_ble_eq_true rfl⟩ (fun r9 S3 H locs hp9 hW hS => ?_)
    obtain ⟨e8, e9⟩ := hp9
    rw [e8] at hW
    subst e9
    refine lv_if_eq (tgt := 34) hx hb dX11_weight_17 (by decide) (fun c_17 => ?_) (fun c_17 => ?_)
    · have q_17 : ¬ (0 ≤ p1 ∧ p1 ≤ 7) := ite0.mp c_17
      refine lv_iconst (v := 1) hx hb dX11_weight_34 (by decide) ?_
      refine k_callVi (As := [.int 1]) (rest := []) C hml (c_X11_refused hR) (cwV 1 hts gX11_weight_X11_refused rfl rfl rfl (by decide +kernel) ⟨by decide, by decide⟩) hW hS hB (hR.1.1).1 (pAt_11 (hR.1.1).2) rfl rfl hl.1 rfl (Nat.le_of_ble_eq_true rfl) dX11_weight_35 ⟨Nat.le_of_ble_eq_true rfl, Nat.le_of_ble_eq_true rfl⟩ (fun r9 S4 H locs hp9 hW hS => ?_)
      obtain ⟨hO9, hR, e9⟩ := hp9
      replace hO := hO.tr hO9
      obtain rfl : r9 = 1 := e9.trans (by decide)
      clear hO9 e9
      refine lv_if_eq (tgt := 42) hx hb dX11_weight_38 (by decide) (fun c9 => absurd c9 (by decide)) (fun c9 => ?_)
      exact k_vret C hr hlk hW hS hB ⟨hO, by rw [mWeight, if_neg (fun z => by first | exact q_7 z.1 | exact q_17 z.2.1 | exact q_27 z.2.2)]; exact hR⟩ (Nat.le_refl _) (Nat.le_refl _) dX11_weight_41
    · have q_17 : (0 ≤ p1 ∧ p1 ≤ 7) := ite1.mp c_17
      refine lv_iload_n hx hb dX11_weight_20 rfl (lv_at hl 3 rfl) ?_
      refine lv_iconst (v := 1) hx hb dX11_weight_21 (by decide) ?_
      refine lv_bipush (v := 100) hx hb dX11_weight_22 (by decide) ?_
      refine k_callSi (As := [.int p2, .int 1, .int 100]) (rest := [.ref a0]) C hml (c_X11_isIn) (va_cwS 3 hts gX11_weight_X11_isIn rfl rfl rfl (by decide +kernel) ⟨by decide, by decide⟩) hW hS hB rfl hl.1 rfl (Nat.le_of_ble_eq_true rfl) dX11_weight_24 ⟨Nat.le_of_ble_eq_true rfl, Nat.le_of_ble_eq_true rfl⟩ (fun r9 S5 H locs hp9 hW hS => ?_)
      obtain ⟨e8, e9⟩ := hp9
      rw [e8] at hW
      subst e9
      refine lv_if_eq (tgt := 34) hx hb dX11_weight_27 (by decide) (fun c_27 => ?_) (fun c_27 => ?_)
      · have q_27 : ¬ (1 ≤ p2 ∧ p2 ≤ 100) := ite0.mp c_27
        refine lv_iconst (v := 1) hx hb dX11_weight_34 (by decide) ?_
        refine k_callVi (As := [.int 1]) (rest := []) C hml (c_X11_refused hR) (cwV 1 hts gX11_weight_X11_refused rfl rfl rfl (by decide +kernel) ⟨by decide, by decide⟩) hW hS hB (hR.1.1).1 (pAt_11 (hR.1.1).2) rfl rfl hl.1 rfl (Nat.le_of_ble_eq_true rfl) dX11_weight_35 ⟨Nat.le_of_ble_eq_true rfl, Nat.le_of_ble_eq_true rfl⟩ (fun r9 S6 H locs hp9 hW hS => ?_)
        obtain ⟨hO9, hR, e9⟩ := hp9
        replace hO := hO.tr hO9
        obtain rfl : r9 = 1 := e9.trans (by decide)
        clear hO9 e9
        refine lv_if_eq (tgt := 42) hx hb dX11_weight_38 (by decide) (fun c9 => absurd c9 (by decide)) (fun c9 => ?_)
        exact k_vret C hr hlk hW hS hB ⟨hO, by rw [mWeight, if_neg (fun z => by first | exact q_7 z.1 | exact q_17 z.2.1 | exact q_27 z.2.2)]; exact hR⟩ (Nat.le_refl _) (Nat.le_refl _) dX11_weight_41
      · have q_27 : (1 ≤ p2 ∧ p2 ≤ 100) := ite1.mp c_27
        refine lv_iconst (v := 0) hx hb dX11_weight_30 (by decide) ?_
        refine lv_goto (tgt := 35) hx hb dX11_weight_31 (by decide) ?_
        refine k_callVi (As := [.int 0]) (rest := []) C hml (c_X11_refused hR) (cwV 1 hts gX11_weight_X11_refused rfl rfl rfl (by decide +kernel) ⟨by decide, by decide⟩) hW hS hB (hR.1.1).1 (pAt_11 (hR.1.1).2) rfl rfl hl.1 rfl (Nat.le_of_ble_eq_true rfl) dX11_weight_35 ⟨Nat.le_of_ble_eq_true rfl, Nat.le_of_ble_eq_true rfl⟩ (fun r9 S7 H locs hp9 hW hS => ?_)
        obtain ⟨hO9, hR, e9⟩ := hp9
        replace hO := hO.tr hO9
        obtain rfl : r9 = 0 := e9.trans (by decide)
        clear hO9 e9
        refine lv_if_eq (tgt := 42) hx hb dX11_weight_38 (by decide) (fun c9 => ?_) (fun c9 => absurd c9 (by decide))
        obtain ⟨k, hk, rfl⟩ := rngN 5 (by decide) q_7
        obtain ⟨j, hj, rfl⟩ := rngN 7 (by decide) q_17
        refine lv_aload_n hx hb dX11_weight_42 rfl (lv_at hl 0 rfl) ?_
        refine g_1119 C hinX11 hW hR.1.1 (mA_19 hR.1) l64 dX11_weight_43 ?_
        refine lv_bipush (v := 8) hx hb dX11_weight_46 (by decide) ?_
        refine lv_iload_n hx hb dX11_weight_48 rfl (lv_at hl 1 rfl) ?_
        refine lv_imul hx hb dX11_weight_49 ?_
        refine top_i (show 8 * (nI k) = nI (8 * k) from pk_mul 8 k) ?_
        refine lv_iload_n hx hb dX11_weight_50 rfl (lv_at hl 2 rfl) ?_
        refine lv_iadd hx hb dX11_weight_51 ?_
        refine top_i (show (nI (8 * k)) + (nI j) = nI ((8 * k) + j) from nI_add (8 * k) j) ?_
        refine lv_iload_n hx hb dX11_weight_52 rfl (lv_at hl 3 rfl) ?_
        refine a_Istore C hW hS (j := ((8 * k) + j)) (mK_19 hR.1) (mN_19 hR.1) rfl (by omega) (by omega) dX11_weight_53 (fun S8 H locs e1 hW hS => ?_)
        have hR : MR S8 a0 t (iI (iF g 1100 0) 19 ((8 * k) + j) p2) := by rw [e1]; exact hR.wI
        replace hO : MO S S8 a0 t := by rw [e1]; exact hO.wI
        clear e1
        exact k_vret C hr hlk hW hS hB ⟨hO, by rw [mWeight, if_pos ⟨q_7, q_17, q_27⟩, nI_clamp (by omega), nI_clamp (by omega)]; exact hR⟩ (Nat.le_refl _) (Nat.le_refl _) dX11_weight_54
def mSpeed (g : MS) (p0 p1 : Int32) : MS := if ((-1) ≤ p0 ∧ p0 ≤ 5) ∧ (999 ≤ p1 ∧ p1 ≤ 1001) then iI (iF g 1100 0) 2 (if p0 < 0 then 6 else p0.toNatClampNeg) p1 else iF g 1100 1
set_option maxRecDepth 100000 in
set_option maxHeartbeats 4000000 in
theorem c_X11_speed {l : Launch} {D : va_G} {cy : Nat → ClassId} {B : Nat} {s0 : State} {S : PS} {a0 : Nat} {t : Nat → Nat} {g : MS} {p0 p1 : Int32} (hR : MR S a0 t g) : KV l yX11_speed wsX11_speed ({ frames := 1, cells := 0, slots := 0, locals := 22 }) D cy B s0 [.ref a0, .int p0, .int p1] S (fun S2 => MO S S2 a0 t ∧ MR S2 a0 t (mSpeed g p0 p1)) 0 0 := by
  refine k_body (own := RX11) (cc := cX11_speed) (maxL := 3) (ret := none) rfl (by decide) rfl (Nat.le_of_ble_eq_true rfl) ?_
  intro p e s m below meth c C hml hr hlk hnm hB hW ls hl
  obtain ⟨hx, hb, hts, hown, hK, hEn⟩ := id C
  have hS : va_S (Aw B) s.heap s.heap [] := va_S.rf
  have hinX11 : ∀ w ∈ wsX110, w ∈ wsX11_speed := by decide +kernel
  have l13 : Cond.fieldLink RX11 13 "LeaseGatesModel" "speeds" "[I" ∈ wsX11_speed := by decide +kernel
  have hl : lv_has ls 3 [(0, .ref a0), (1, .int p0), (2, .int p1)] := hl
  have hO : MO S S a0 t := MO.rf
  refine lv_aload_n hx hb dX11_speed_0 rfl (lv_at hl 0 rfl) ?_
  refine lv_iload_n hx hb dX11_speed_1 rfl (lv_at hl 1 rfl) ?_
  refine lv_iconst (v := (-1)) hx hb dX11_speed_2 (by decide) ?_
  refine lv_iconst (v := 5) hx hb dX11_speed_3 (by decide) ?_
  refine k_callSi (As := [.int p0, .int (-1), .int 5]) (rest := [.ref a0]) C hml (c_X11_isIn) (va_cwS 3 hts gX11_speed_X11_isIn rfl rfl rfl (by decide +kernel) ⟨by decide, by decide⟩) hW hS hB rfl hl.1 rfl (Nat.le_of_ble_eq_true rfl) dX11_speed_4 ⟨Nat.le_of_ble_eq_true rfl, Nat.le_of_ble_eq_true rfl⟩ (fun r9 S1 H locs hp9 hW hS => ?_)
  obtain ⟨e8, e9⟩ := hp9
  rw [e8] at hW
  subst e9
  refine lv_if_eq (tgt := 27) hx hb dX11_speed_7 (by decide) (fun c_7 => ?_) (fun c_7 => ?_)
  · have q_7 : ¬ ((-1) ≤ p0 ∧ p0 ≤ 5) := ite0.mp c_7
    refine lv_iconst (v := 1) hx hb dX11_speed_27 (by decide) ?_
    refine k_callVi (As := [.int 1]) (rest := []) C hml (c_X11_refused hR) (cwV 1 hts gX11_speed_X11_refused rfl rfl rfl (by decide +kernel) ⟨by decide, by decide⟩) hW hS hB (hR.1.1).1 (pAt_11 (hR.1.1).2) rfl rfl hl.1 rfl (Nat.le_of_ble_eq_true rfl) dX11_speed_28 ⟨Nat.le_of_ble_eq_true rfl, Nat.le_of_ble_eq_true rfl⟩ (fun r9 S2 H locs hp9 hW hS => ?_)
    obtain ⟨hO9, hR, e9⟩ := hp9
    replace hO := hO.tr hO9
    obtain rfl : r9 = 1 := e9.trans (by decide)
    clear hO9 e9
    refine lv_if_eq (tgt := 35) hx hb dX11_speed_31 (by decide) (fun c9 => absurd c9 (by decide)) (fun c9 => ?_)
    exact k_vret C hr hlk hW hS hB ⟨hO, by rw [mSpeed, if_neg (fun z => by first | exact q_7 z.1 | exact q_20 z.2)]; exact hR⟩ (Nat.le_refl _) (Nat.le_refl _) dX11_speed_34
  · have q_7 : ((-1) ≤ p0 ∧ p0 ≤ 5) := ite1.mp c_7
    refine lv_iload_n hx hb dX11_speed_10 rfl (lv_at hl 2 rfl) ?_
    refine lv_sipush (v := 999) hx hb dX11_speed_11 (by decide) ?_
    refine lv_sipush (v := 1001) hx hb dX11_speed_14 (by decide) ?_
    refine k_callSi (As := [.int p1, .int 999, .int 1001]) (rest := [.ref a0]) C hml (c_X11_isIn) (va_cwS 3 hts gX11_speed_X11_isIn rfl rfl rfl (by decide +kernel) ⟨by decide, by decide⟩) hW hS hB rfl hl.1 rfl (Nat.le_of_ble_eq_true rfl) dX11_speed_17 ⟨Nat.le_of_ble_eq_true rfl, Nat.le_of_ble_eq_true rfl⟩ (fun r9 S3 H locs hp9 hW hS => ?_)
    obtain ⟨e8, e9⟩ := hp9
    rw [e8] at hW
    subst e9
    refine lv_if_eq (tgt := 27) hx hb dX11_speed_20 (by decide) (fun c_20 => ?_) (fun c_20 => ?_)
    · have q_20 : ¬ (999 ≤ p1 ∧ p1 ≤ 1001) := ite0.mp c_20
      refine lv_iconst (v := 1) hx hb dX11_speed_27 (by decide) ?_
      refine k_callVi (As := [.int 1]) (rest := []) C hml (c_X11_refused hR) (cwV 1 hts gX11_speed_X11_refused rfl rfl rfl (by decide +kernel) ⟨by decide, by decide⟩) hW hS hB (hR.1.1).1 (pAt_11 (hR.1.1).2) rfl rfl hl.1 rfl (Nat.le_of_ble_eq_true rfl) dX11_speed_28 ⟨Nat.le_of_ble_eq_true rfl, Nat.le_of_ble_eq_true rfl⟩ (fun r9 S4 H locs hp9 hW hS => ?_)
      obtain ⟨hO9, hR, e9⟩ := hp9
      replace hO := hO.tr hO9
      obtain rfl : r9 = 1 := e9.trans (by decide)
      clear hO9 e9
      refine lv_if_eq (tgt := 35) hx hb dX11_speed_31 (by decide) (fun c9 => absurd c9 (by decide)) (fun c9 => ?_)
      exact k_vret C hr hlk hW hS hB ⟨hO, by rw [mSpeed, if_neg (fun z => by first | exact q_7 z.1 | exact q_20 z.2)]; exact hR⟩ (Nat.le_refl _) (Nat.le_refl _) dX11_speed_34
    · have q_20 : (999 ≤ p1 ∧ p1 ≤ 1001) := ite1.mp c_20
      refine lv_iconst (v := 0) hx hb dX11_speed_23 (by decide) ?_
      refine lv_goto (tgt := 28) hx hb dX11_speed_24 (by decide) ?_
      refine k_callVi (As := [.int 0]) (rest := []) C hml (c_X11_refused hR) (cwV 1 hts gX11_speed_X11_refused rfl rfl rfl (by decide +kernel) ⟨by decide, by decide⟩) hW hS hB (hR.1.1).1 (pAt_11 (hR.1.1).2) rfl rfl hl.1 rfl (Nat.le_of_ble_eq_true rfl) dX11_speed_28 ⟨Nat.le_of_ble_eq_true rfl, Nat.le_of_ble_eq_true rfl⟩ (fun r9 S5 H locs hp9 hW hS => ?_)
      obtain ⟨hO9, hR, e9⟩ := hp9
      replace hO := hO.tr hO9
      obtain rfl : r9 = 0 := e9.trans (by decide)
      clear hO9 e9
      refine lv_if_eq (tgt := 35) hx hb dX11_speed_31 (by decide) (fun c9 => ?_) (fun c9 => absurd c9 (by decide))
      refine lv_aload_n hx hb dX11_speed_35 rfl (lv_at hl 0 rfl) ?_
      refine g_1102 C hinX11 hW hR.1.1 (mA_2 hR.1) l13 dX11_speed_36 ?_
      refine lv_iload_n hx hb dX11_speed_39 rfl (lv_at hl 1 rfl) ?_
      refine lv_if_ge (tgt := 48) hx hb dX11_speed_40 (by decide) (fun c_40 => ?_) (fun c_40 => ?_)
      · obtain ⟨k, hk, rfl⟩ := rngN 5 (by decide) ⟨c_40, q_7.2⟩
        refine lv_iload_n hx hb dX11_speed_48 rfl (lv_at hl 1 rfl) ?_
        refine lv_iload_n hx hb dX11_speed_49 rfl (lv_at hl 2 rfl) ?_
        refine a_Istore C hW hS (j := k) (mK_2 hR.1) (mN_2 hR.1) rfl (by omega) (by omega) dX11_speed_50 (fun S6 H locs e1 hW hS => ?_)
        have hR : MR S6 a0 t (iI (iF g 1100 0) 2 k p1) := by rw [e1]; exact hR.wI
        replace hO : MO S S6 a0 t := by rw [e1]; exact hO.wI
        clear e1
        exact k_vret C hr hlk hW hS hB ⟨hO, by rw [mSpeed, if_pos ⟨q_7, q_20⟩, if_neg (Int32.not_lt.mpr c_40), nI_clamp (by omega)]; exact hR⟩ (Nat.le_refl _) (Nat.le_refl _) dX11_speed_51
      · refine lv_bipush (v := 6) hx hb dX11_speed_43 (by decide) ?_
        refine lv_goto (tgt := 49) hx hb dX11_speed_45 (by decide) ?_
        refine lv_iload_n hx hb dX11_speed_49 rfl (lv_at hl 2 rfl) ?_
        refine a_Istore C hW hS (j := 6) (mK_2 hR.1) (mN_2 hR.1) rfl (by omega) (by omega) dX11_speed_50 (fun S7 H locs e1 hW hS => ?_)
        have hR : MR S7 a0 t (iI (iF g 1100 0) 2 6 p1) := by rw [e1]; exact hR.wI
        replace hO : MO S S7 a0 t := by rw [e1]; exact hO.wI
        clear e1
        exact k_vret C hr hlk hW hS hB ⟨hO, by rw [mSpeed, if_pos ⟨q_7, q_20⟩, if_pos (Int32.not_le.mp c_40)]; exact hR⟩ (Nat.le_refl _) (Nat.le_refl _) dX11_speed_51
def mNext (lt le : Nat → Int32) (tm : Int32) : Nat → Int32
  | 0 => -1
  | n + 1 => if 0 < lt n ∧ tm < le n ∧ (mNext lt le tm n < 0 ∨ le n < mNext lt le tm n) then le n else mNext lt le tm n
set_option maxRecDepth 100000 in
set_option maxHeartbeats 4000000 in
theorem c_X11_nextEnd {l : Launch} {D : va_G} {cy : Nat → ClassId} {B : Nat} {s0 : State} {S : PS} {a0 : Nat} {t : Nat → Nat} {g : MS} {n : Nat} {tm : Int32} (hR : MR S a0 t g) (hn : g.2.2 1107 = nI n) (hn3 : n ≤ 300) : KI l yX11_nextEnd wsX11_nextEnd ({ frames := 0, cells := 0, slots := 0, locals := 0 }) D cy B s0 [.ref a0, .int tm] S (fun r S2 => S2 = S ∧ r = mNext (g.1 9) (g.1 10) tm n) 0 0 := by
  refine k_body (own := RX11) (cc := cX11_nextEnd) (maxL := 4) (ret := (some .int)) rfl (by decide) rfl (Nat.le_of_ble_eq_true rfl) ?_
  intro p e s m below meth c C hml hr hlk hnm hB hW ls hl
  obtain ⟨hx, hb, hts, hown, hK, hEn⟩ := id C
  have hS : va_S (Aw B) s.heap s.heap [] := va_S.rf
  have hinX11 : ∀ w ∈ wsX110, w ∈ wsX11_nextEnd := by decide +kernel
  have l32 : Cond.fieldLink RX11 32 "LeaseGatesModel" "loanTokens" "[I" ∈ wsX11_nextEnd := by decide +kernel
  have l35 : Cond.fieldLink RX11 35 "LeaseGatesModel" "loanEnd" "[I" ∈ wsX11_nextEnd := by decide +kernel
  have l111 : Cond.fieldLink RX11 111 "LeaseGatesModel" "loans" "I" ∈ wsX11_nextEnd := by decide +kernel
  have hl : lv_has ls 4 [(0, .ref a0), (1, .int tm)] := hl
  have hO : MO S S a0 t := MO.rf
  refine lv_iconst (v := (-1)) hx hb dX11_nextEnd_0 (by decide) ?_
  refine lv_istore_n (lv' := [(2, .int (-1)), (0, .ref a0), (1, .int tm)]) hx hb dX11_nextEnd_1 rfl hl (by decide) rfl (fun ls hl => ?_)
  refine lv_iconst (v := 0) hx hb dX11_nextEnd_2 (by decide) ?_
  refine lv_istore_n (lv' := [(3, .int 0), (2, .int (-1)), (0, .ref a0), (1, .int tm)]) hx hb dX11_nextEnd_3 rfl hl (by decide) rfl (fun ls hl => ?_)
  have lp : ∀ (d k : Nat) (x2 : Int32) (ls : Array Slot), k ≤ n → n - k < d → x2 = mNext (g.1 9) (g.1 10) tm k → lv_has ls 4 [(0, .ref a0), (1, .int tm), (2, .int x2), (3, .int (nI k))] → W p l e ({ frames := 0, cells := 0, slots := 0, locals := 0 }) s m [.ref a0, .int tm].toArray below meth c s.heap [] 0 0 (MQ below (va_Qi (fun r S2 => S2 = S ∧ r = mNext (g.1 9) (g.1 10) tm n) (PreW D cy B s0) (Aw B)) [.ref a0, .int tm].toArray s 0 0 (Aw B)) (F0 m 4 ls []) := by
    intro d
    induction d with
    | zero => intro k x2 ls _ hd; exact absurd hd (Nat.not_lt_zero _)
    | succ d ih =>
      intro k x2 ls hk hd e2 hl
      refine lv_iload_n hx hb dX11_nextEnd_4 rfl (lv_at hl 3 rfl) ?_
      refine lv_aload_n hx hb dX11_nextEnd_5 rfl (lv_at hl 0 rfl) ?_
      refine g_1107 C hinX11 hW hR.1.1 l111 dX11_nextEnd_6 ?_
      refine top_i (show fI S 1107 a0 = nI n from (hR.f 1107).trans hn) ?_
      refine lv_icmp_ge (tgt := 58) hx hb dX11_nextEnd_9 (by decide) (fun c_9 => ?_) (fun c_9 => ?_)
      · have q_9 : n ≤ k := (nI_leI (a := n) (b := k) (by omega) (by omega)).mp c_9
        refine lv_iload_n hx hb dX11_nextEnd_58 rfl (lv_at hl 2 rfl) ?_
        exact k_iret C hr hlk hW hS hB ⟨rfl, by rw [e2, show k = n by omega]⟩ (Nat.le_refl _) (Nat.le_refl _) dX11_nextEnd_59
      · have q_9 : ¬ (n ≤ k) := fun z => c_9 ((nI_leI (a := n) (b := k) (by omega) (by omega)).mpr z)
        refine lv_aload_n hx hb dX11_nextEnd_12 rfl (lv_at hl 0 rfl) ?_
        refine g_1109 C hinX11 hW hR.1.1 (mA_9 hR.1) l32 dX11_nextEnd_13 ?_
        refine lv_iload_n hx hb dX11_nextEnd_16 rfl (lv_at hl 3 rfl) ?_
        refine a_Iload C hW (j := k) (mK_9 hR.1) (mN_9 hR.1) rfl (by omega) (by omega) dX11_nextEnd_17 ?_
        refine top_i (show aI S (t 9) k = g.1 9 k from hR.i 9 k) ?_
        refine lv_if_le (tgt := 52) hx hb dX11_nextEnd_18 (by decide) (fun c_18 => ?_) (fun c_18 => ?_)
        · refine lv_iinc (v := nI (k + 1)) (lv' := [(3, .int (nI (k + 1))), (0, .ref a0), (1, .int tm), (2, .int x2)]) hx hb dX11_nextEnd_52 hl (k := 3) rfl (nI_add k 1) (by decide) rfl (fun ls hl => ?_)
          refine lv_goto (tgt := 4) hx hb dX11_nextEnd_55 (by decide) ?_
          exact ih (k + 1) _ ls (by omega) (by omega) (by rw [mNext, if_neg (fun z => absurd z.1 (Int32.not_lt.mpr c_18))]; exact e2) (lv_sub hl [1, 2, 3, 0] rfl)
        · refine lv_aload_n hx hb dX11_nextEnd_21 rfl (lv_at hl 0 rfl) ?_
          refine g_1110 C hinX11 hW hR.1.1 (mA_10 hR.1) l35 dX11_nextEnd_22 ?_
          refine lv_iload_n hx hb dX11_nextEnd_25 rfl (lv_at hl 3 rfl) ?_
          refine a_Iload C hW (j := k) (mK_10 hR.1) (mN_10 hR.1) rfl (by omega) (by omega) dX11_nextEnd_26 ?_
          refine top_i (show aI S (t 10) k = g.1 10 k from hR.i 10 k) ?_
          refine lv_iload_n hx hb dX11_nextEnd_27 rfl (lv_at hl 1 rfl) ?_
          refine lv_icmp_le (tgt := 52) hx hb dX11_nextEnd_28 (by decide) (fun c_28 => ?_) (fun c_28 => ?_)
          · refine lv_iinc (v := nI (k + 1)) (lv' := [(3, .int (nI (k + 1))), (0, .ref a0), (1, .int tm), (2, .int x2)]) hx hb dX11_nextEnd_52 hl (k := 3) rfl (nI_add k 1) (by decide) rfl (fun ls hl => ?_)
            refine lv_goto (tgt := 4) hx hb dX11_nextEnd_55 (by decide) ?_
            exact ih (k + 1) _ ls (by omega) (by omega) (by rw [mNext, if_neg (fun z => absurd z.2.1 (Int32.not_lt.mpr c_28))]; exact e2) (lv_sub hl [1, 2, 3, 0] rfl)
          · refine lv_iload_n hx hb dX11_nextEnd_31 rfl (lv_at hl 2 rfl) ?_
            refine lv_if_lt (tgt := 45) hx hb dX11_nextEnd_32 (by decide) (fun c_32 => ?_) (fun c_32 => ?_)
            · refine lv_aload_n hx hb dX11_nextEnd_45 rfl (lv_at hl 0 rfl) ?_
              refine g_1110 C hinX11 hW hR.1.1 (mA_10 hR.1) l35 dX11_nextEnd_46 ?_
              refine lv_iload_n hx hb dX11_nextEnd_49 rfl (lv_at hl 3 rfl) ?_
              refine a_Iload C hW (j := k) (mK_10 hR.1) (mN_10 hR.1) rfl (by omega) (by omega) dX11_nextEnd_50 ?_
              refine top_i (show aI S (t 10) k = g.1 10 k from hR.i 10 k) ?_
              refine lv_istore_n (lv' := [(2, .int (g.1 10 k)), (0, .ref a0), (1, .int tm), (3, .int (nI k))]) hx hb dX11_nextEnd_51 rfl hl (by decide) rfl (fun ls hl => ?_)
              refine lv_iinc (v := nI (k + 1)) (lv' := [(3, .int (nI (k + 1))), (2, .int (g.1 10 k)), (0, .ref a0), (1, .int tm)]) hx hb dX11_nextEnd_52 hl (k := 3) rfl (nI_add k 1) (by decide) rfl (fun ls hl => ?_)
              refine lv_goto (tgt := 4) hx hb dX11_nextEnd_55 (by decide) ?_
              exact ih (k + 1) _ ls (by omega) (by omega) (by rw [mNext, if_pos ⟨Int32.not_le.mp c_18, Int32.not_le.mp c_28, Or.inl (by rw [← e2]; exact c_32)⟩]) (lv_sub hl [2, 3, 1, 0] rfl)
            · refine lv_aload_n hx hb dX11_nextEnd_35 rfl (lv_at hl 0 rfl) ?_
              refine g_1110 C hinX11 hW hR.1.1 (mA_10 hR.1) l35 dX11_nextEnd_36 ?_
              refine lv_iload_n hx hb dX11_nextEnd_39 rfl (lv_at hl 3 rfl) ?_
              refine a_Iload C hW (j := k) (mK_10 hR.1) (mN_10 hR.1) rfl (by omega) (by omega) dX11_nextEnd_40 ?_
              refine top_i (show aI S (t 10) k = g.1 10 k from hR.i 10 k) ?_
              refine lv_iload_n hx hb dX11_nextEnd_41 rfl (lv_at hl 2 rfl) ?_
              refine lv_icmp_ge (tgt := 52) hx hb dX11_nextEnd_42 (by decide) (fun c_42 => ?_) (fun c_42 => ?_)
              · refine lv_iinc (v := nI (k + 1)) (lv' := [(3, .int (nI (k + 1))), (0, .ref a0), (1, .int tm), (2, .int x2)]) hx hb dX11_nextEnd_52 hl (k := 3) rfl (nI_add k 1) (by decide) rfl (fun ls hl => ?_)
                refine lv_goto (tgt := 4) hx hb dX11_nextEnd_55 (by decide) ?_
                exact ih (k + 1) _ ls (by omega) (by omega) (by rw [mNext, if_neg (fun z => z.2.2.elim (fun z2 => c_32 (by rw [e2]; exact z2)) (fun z2 => absurd z2 (Int32.not_lt.mpr (by rw [← e2]; exact c_42))))]; exact e2) (lv_sub hl [1, 2, 3, 0] rfl)
              · refine lv_aload_n hx hb dX11_nextEnd_45 rfl (lv_at hl 0 rfl) ?_
                refine g_1110 C hinX11 hW hR.1.1 (mA_10 hR.1) l35 dX11_nextEnd_46 ?_
                refine lv_iload_n hx hb dX11_nextEnd_49 rfl (lv_at hl 3 rfl) ?_
                refine a_Iload C hW (j := k) (mK_10 hR.1) (mN_10 hR.1) rfl (by omega) (by omega) dX11_nextEnd_50 ?_
                refine top_i (show aI S (t 10) k = g.1 10 k from hR.i 10 k) ?_
                refine lv_istore_n (lv' := [(2, .int (g.1 10 k)), (0, .ref a0), (1, .int tm), (3, .int (nI k))]) hx hb dX11_nextEnd_51 rfl hl (by decide) rfl (fun ls hl => ?_)
                refine lv_iinc (v := nI (k + 1)) (lv' := [(3, .int (nI (k + 1))), (2, .int (g.1 10 k)), (0, .ref a0), (1, .int tm)]) hx hb dX11_nextEnd_52 hl (k := 3) rfl (nI_add k 1) (by decide) rfl (fun ls hl => ?_)
                refine lv_goto (tgt := 4) hx hb dX11_nextEnd_55 (by decide) ?_
                exact ih (k + 1) _ ls (by omega) (by omega) (by rw [mNext, if_pos ⟨Int32.not_le.mp c_18, Int32.not_le.mp c_28, Or.inr (by rw [← e2]; exact Int32.not_le.mp c_42)⟩]) (lv_sub hl [2, 3, 1, 0] rfl)
  exact lp (n - 0 + 1) 0 (-1) ls (by omega) (by omega) rfl (lv_sub hl [2, 3, 1, 0] rfl)
def mFillAll (g : MS) (n : Nat) (ms : Int32) : Nat → MS
  | 0 => g
  | k + 1 => mFill (mFillAll g n ms k) n k ((mFillAll g n ms k).2.1 5 k + ms.toInt64 * ((mFillAll g n ms k).1 3 k).toInt64)
theorem mFill_f (g : MS) (n k : Nat) (lv : Int64) : (mFill g n k lv).2.2 = g.2.2 := rfl
theorem mFillAll_f (g : MS) (n : Nat) (ms : Int32) (k : Nat) : (mFillAll g n ms k).2.2 = g.2.2 := by
  induction k with
  | zero => rfl
  | succ k ih => exact ih
set_option maxRecDepth 100000 in
set_option maxHeartbeats 4000000 in
theorem c_X11_fillAll {l : Launch} {D : va_G} {cy : Nat → ClassId} {B : Nat} {s0 : State} {S : PS} {a0 : Nat} {t : Nat → Nat} {g : MS} {n : Nat} {x : Int32} (hR : MR S a0 t g) (hn : g.2.2 1107 = nI n) (hn3 : n ≤ 300) : KV l yX11_fillAll wsX11_fillAll ({ frames := 2, cells := 0, slots := 0, locals := 50 }) D cy B s0 [.ref a0, .int x] S (fun S2 => MO S S2 a0 t ∧ MR S2 a0 t (mFillAll g n x 8)) 0 0 := by
  refine k_body (own := RX11) (cc := cX11_fillAll) (maxL := 3) (ret := none) rfl (by decide) rfl (Nat.le_of_ble_eq_true rfl) ?_
  intro p e s m below meth c C hml hr hlk hnm hB hW ls hl
  obtain ⟨hx, hb, hts, hown, hK, hEn⟩ := id C
  have hS : va_S (Aw B) s.heap s.heap [] := va_S.rf
  have hinX11 : ∀ w ∈ wsX110, w ∈ wsX11_fillAll := by decide +kernel
  have l17 : Cond.fieldLink RX11 17 "LeaseGatesModel" "rates" "[I" ∈ wsX11_fillAll := by decide +kernel
  have l23 : Cond.fieldLink RX11 23 "LeaseGatesModel" "levels" "[J" ∈ wsX11_fillAll := by decide +kernel
  have hl : lv_has ls 3 [(0, .ref a0), (1, .int x)] := hl
  have hO : MO S S a0 t := MO.rf
  refine lv_iconst (v := 0) hx hb dX11_fillAll_0 (by decide) ?_
  refine lv_istore_n (lv' := [(2, .int 0), (0, .ref a0), (1, .int x)]) hx hb dX11_fillAll_1 rfl hl (by decide) rfl (fun ls hl => ?_)
  have lp : ∀ (d k : Nat) (Sk : PS) (H : Heap) (locs : List Loc) (ls : Array Slot), k ≤ 8 → 8 - k < d → MR Sk a0 t (mFillAll g n x k) → MO S Sk a0 t → PW D cy B Sk H → va_S (Aw B) s.heap H locs → lv_has ls 3 [(0, .ref a0), (1, .int x), (2, .int (nI k))] → W p l e ({ frames := 2, cells := 0, slots := 0, locals := 50 }) s m [.ref a0, .int x].toArray below meth c H locs 0 0 (MQ below (va_Qv (fun S2 => MO S S2 a0 t ∧ MR S2 a0 t (mFillAll g n x 8)) (PreW D cy B s0) (Aw B)) [.ref a0, .int x].toArray s 0 0 (Aw B)) (F0 m 2 ls []) := by
    intro d
    induction d with
    | zero => intro k  Sk H locs ls _ hd; exact absurd hd (Nat.not_lt_zero _)
    | succ d ih =>
      intro k  Sk H locs ls hk hd hR hO hW hS hl
      have hn := (congrFun (mFillAll_f g n x k) 1107).trans hn
      refine lv_iload_n hx hb dX11_fillAll_2 rfl (lv_at hl 2 rfl) ?_
      refine lv_bipush (v := 8) hx hb dX11_fillAll_3 (by decide) ?_
      refine lv_icmp_ge (tgt := 36) hx hb dX11_fillAll_5 (by decide) (fun c_5 => ?_) (fun c_5 => ?_)
      · have q_5 : 8 ≤ k := (nI_leI (a := 8) (b := k) (by omega) (by omega)).mp c_5
        exact k_vret C hr hlk hW hS hB ⟨hO, by rw [show k = 8 by omega] at hR; exact hR⟩ (Nat.le_refl _) (Nat.le_refl _) dX11_fillAll_36
      · have q_5 : ¬ (8 ≤ k) := fun z => c_5 ((nI_leI (a := 8) (b := k) (by omega) (by omega)).mpr z)
        refine lv_aload_n hx hb dX11_fillAll_8 rfl (lv_at hl 0 rfl) ?_
        refine lv_iload_n hx hb dX11_fillAll_9 rfl (lv_at hl 2 rfl) ?_
        refine lv_aload_n hx hb dX11_fillAll_10 rfl (lv_at hl 0 rfl) ?_
        refine g_1105 C hinX11 hW hR.1.1 (mA_5 hR.1) l23 dX11_fillAll_11 ?_
        refine lv_iload_n hx hb dX11_fillAll_14 rfl (lv_at hl 2 rfl) ?_
        refine a_Jload C hW (j := k) (mK_5 hR.1) (mN_5 hR.1) rfl (by omega) (by omega) dX11_fillAll_15 ?_
        refine top_l (show aJ Sk (t 5) k = (mFillAll g n x k).2.1 5 k from hR.l 5 k) ?_
        refine lv_iload_n hx hb dX11_fillAll_16 rfl (lv_at hl 1 rfl) ?_
        refine lv_i2l (v := x.toInt64) hx hb dX11_fillAll_17 rfl ?_
        refine lv_aload_n hx hb dX11_fillAll_18 rfl (lv_at hl 0 rfl) ?_
        refine g_1103 C hinX11 hW hR.1.1 (mA_3 hR.1) l17 dX11_fillAll_19 ?_
        refine lv_iload_n hx hb dX11_fillAll_22 rfl (lv_at hl 2 rfl) ?_
        refine a_Iload C hW (j := k) (mK_3 hR.1) (mN_3 hR.1) rfl (by omega) (by omega) dX11_fillAll_23 ?_
        refine top_i (show aI Sk (t 3) k = (mFillAll g n x k).1 3 k from hR.i 3 k) ?_
        refine lv_i2l (v := ((mFillAll g n x k).1 3 k).toInt64) hx hb dX11_fillAll_24 rfl ?_
        refine lv_lmul hx hb dX11_fillAll_25 ?_
        refine lv_ladd hx hb dX11_fillAll_26 ?_
        refine k_callVv (As := [.int (nI k), .long (((mFillAll g n x k).2.1 5 k) + (x.toInt64 * (((mFillAll g n x k).1 3 k).toInt64)))]) (rest := []) C hml (c_X11_fill (k := k) hR hn hn3 (by omega)) (cwV 2 hts gX11_fillAll_X11_fill rfl rfl rfl (by decide +kernel) ⟨by decide, by decide⟩) hW hS hB (hR.1.1).1 (pAt_11 (hR.1.1).2) rfl rfl hl.1 rfl (Nat.le_of_ble_eq_true rfl) dX11_fillAll_27 ⟨Nat.le_of_ble_eq_true rfl, Nat.le_of_ble_eq_true rfl⟩ (fun S1 H locs hp9 hW hS => ?_)
        obtain ⟨hO9, hR⟩ := hp9
        replace hO := hO.tr hO9
        clear hO9
        refine lv_iinc (v := nI (k + 1)) (lv' := [(2, .int (nI (k + 1))), (0, .ref a0), (1, .int x)]) hx hb dX11_fillAll_30 hl (k := 2) rfl (nI_add k 1) (by decide) rfl (fun ls hl => ?_)
        refine lv_goto (tgt := 2) hx hb dX11_fillAll_33 (by decide) ?_
        exact ih (k + 1)  _ _ _ ls (by omega) (by omega) hR hO hW hS (lv_sub hl [1, 2, 0] rfl)
  exact lp (8 - 0 + 1) 0  _ _ _ ls (by omega) (by omega) hR hO hW hS (lv_sub hl [1, 2, 0] rfl)
