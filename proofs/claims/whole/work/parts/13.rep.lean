/-- what the class's lists hold: arrays, addresses of holds and loans by loan number, holds of each desk, loans of each bucket, what is lent -/
abbrev CS : Type := (Nat → Nat) × (Nat → Nat) × (Nat → Nat) × (Nat → List Nat) × (Nat → List Nat) × (Nat → Int32)
abbrev cA (c : CS) : Nat → Nat := c.1
abbrev cH (c : CS) : Nat → Nat := c.2.1
abbrev cL (c : CS) : Nat → Nat := c.2.2.1
abbrev cP (c : CS) : Nat → List Nat := c.2.2.2.1
abbrev cQl (c : CS) : Nat → List Nat := c.2.2.2.2.1
abbrev cE (c : CS) : Nat → Int32 := c.2.2.2.2.2
/-- a message's cells -/
def MsgAt (S : PS) (m : Nat) (kd gt kk birth tok cnt num len : Int32) : Prop := IsAt S 6 m ∧ fI S 600 m = kd ∧ fI S 601 m = gt ∧ fI S 602 m = kk ∧ fI S 603 m = birth ∧ fI S 604 m = tok ∧ fI S 605 m = cnt ∧ fI S 606 m = num ∧ fI S 607 m = len
def HAt (S : PS) (b h : Nat) (g : MS) : Prop := IsAt S 4 b ∧ fI S 400 b = nI h ∧ fI S 401 b = g.1 29 h ∧ fI S 402 b = 998 * g.1 30 h / 1000 ∧ fI S 403 b = g.1 28 h ∧ h < 300
def LAt (S : PS) (b h : Nat) (g : MS) : Prop := IsAt S 5 b ∧ fI S 500 b = nI h ∧ fI S 501 b = g.1 9 h ∧ fI S 502 b = g.1 10 h ∧ h < 300
/-- the class's fixed objects -/
def Lay (S : PS) (y : Nat → Nat) : Prop := IsAt S 10 (y 0) ∧ IsAt S 8 (y 1) ∧ IsAt S 7 (y 2) ∧ IsAt S 19 (y 3) ∧ IsAt S 20 (y 4) ∧ IsAt S 17 (y 5) ∧ IsAt S 16 (y 6) ∧ IsAt S 13 (y 7) ∧ (aN S (y 3) = 6) ∧ (aN S (y 4) = 300) ∧ (aN S (y 5) = 8) ∧ (aN S (y 6) = 48) ∧ (aN S (y 7) = 6) ∧ (fR S 1000 (y 0) = some (y 1)) ∧ (fR S 1001 (y 0) = some (y 3)) ∧ (fR S 1002 (y 0) = some (y 2)) ∧ (fR S 700 (y 2) = some (y 4)) ∧ (fR S 800 (y 1) = some (y (30 + 6))) ∧ (fR S 801 (y 1) = some (y 5)) ∧ (fR S 802 (y 1) = some (y 6)) ∧ (fR S 803 (y 1) = some (y 7)) ∧ (∀ i, i < 6 → IsAt S 3 (y (10 + i))) ∧ (∀ i, i < 6 → aQ S (y 3) i = some (y (10 + i))) ∧ (∀ i, i < 6 → fR S 300 (y (10 + i)) = some (y (30 + i))) ∧ (∀ i, i < 6 → fR S 301 (y (10 + i)) = some (y (20 + i))) ∧ (∀ i, i < 6 → IsAt S 18 (y (20 + i))) ∧ (∀ i, i < 6 → aN S (y (20 + i)) = 8) ∧ (∀ i k, i < 6 → k < 8 → aQ S (y (20 + i)) k = some (y (100 + (8 * i + k)))) ∧ (∀ i, i < 7 → IsAt S 9 (y (30 + i))) ∧ (∀ i, i < 8 → IsAt S 1 (y (40 + i))) ∧ (∀ i, i < 8 → aQ S (y 5) i = some (y (40 + i))) ∧ (∀ i, i < 8 → fR S 100 (y (40 + i)) = some (y (50 + i))) ∧ (∀ i, i < 48 → IsAt S 2 (y (100 + i))) ∧ (∀ i, i < 48 → fR S 202 (y (100 + i)) = some (y (200 + i))) ∧ (∀ i, i < 48 → IsAt S 0 (y (300 + i))) ∧ (∀ i, i < 48 → aQ S (y 6) i = some (y (300 + i))) ∧ (∀ i k, i < 6 → k < 8 → fI S 200 (y (100 + (8 * i + k))) = nI i) ∧ (∀ i k, i < 6 → k < 8 → fI S 201 (y (100 + (8 * i + k))) = nI k) ∧ (∀ i j, y i = y j → i = j)
theorem Lay.k0 {S : PS} {y : Nat → Nat} (h : Lay S y) : IsAt S 10 (y 0) := h.1
theorem Lay.k1 {S : PS} {y : Nat → Nat} (h : Lay S y) : IsAt S 8 (y 1) := h.2.1
theorem Lay.k2 {S : PS} {y : Nat → Nat} (h : Lay S y) : IsAt S 7 (y 2) := h.2.2.1
theorem Lay.k3 {S : PS} {y : Nat → Nat} (h : Lay S y) : IsAt S 19 (y 3) := h.2.2.2.1
theorem Lay.k4 {S : PS} {y : Nat → Nat} (h : Lay S y) : IsAt S 20 (y 4) := h.2.2.2.2.1
theorem Lay.k5 {S : PS} {y : Nat → Nat} (h : Lay S y) : IsAt S 17 (y 5) := h.2.2.2.2.2.1
theorem Lay.k6 {S : PS} {y : Nat → Nat} (h : Lay S y) : IsAt S 16 (y 6) := h.2.2.2.2.2.2.1
theorem Lay.k7 {S : PS} {y : Nat → Nat} (h : Lay S y) : IsAt S 13 (y 7) := h.2.2.2.2.2.2.2.1
theorem Lay.n3 {S : PS} {y : Nat → Nat} (h : Lay S y) : aN S (y 3) = 6 := h.2.2.2.2.2.2.2.2.1
theorem Lay.n4 {S : PS} {y : Nat → Nat} (h : Lay S y) : aN S (y 4) = 300 := h.2.2.2.2.2.2.2.2.2.1
theorem Lay.n5 {S : PS} {y : Nat → Nat} (h : Lay S y) : aN S (y 5) = 8 := h.2.2.2.2.2.2.2.2.2.2.1
theorem Lay.n6 {S : PS} {y : Nat → Nat} (h : Lay S y) : aN S (y 6) = 48 := h.2.2.2.2.2.2.2.2.2.2.2.1
theorem Lay.n7 {S : PS} {y : Nat → Nat} (h : Lay S y) : aN S (y 7) = 6 := h.2.2.2.2.2.2.2.2.2.2.2.2.1
theorem Lay.r1000 {S : PS} {y : Nat → Nat} (h : Lay S y) : fR S 1000 (y 0) = some (y 1) := h.2.2.2.2.2.2.2.2.2.2.2.2.2.1
theorem Lay.r1001 {S : PS} {y : Nat → Nat} (h : Lay S y) : fR S 1001 (y 0) = some (y 3) := h.2.2.2.2.2.2.2.2.2.2.2.2.2.2.1
theorem Lay.r1002 {S : PS} {y : Nat → Nat} (h : Lay S y) : fR S 1002 (y 0) = some (y 2) := h.2.2.2.2.2.2.2.2.2.2.2.2.2.2.2.1
theorem Lay.r700 {S : PS} {y : Nat → Nat} (h : Lay S y) : fR S 700 (y 2) = some (y 4) := h.2.2.2.2.2.2.2.2.2.2.2.2.2.2.2.2.1
theorem Lay.r800 {S : PS} {y : Nat → Nat} (h : Lay S y) : fR S 800 (y 1) = some (y (30 + 6)) := h.2.2.2.2.2.2.2.2.2.2.2.2.2.2.2.2.2.1
theorem Lay.r801 {S : PS} {y : Nat → Nat} (h : Lay S y) : fR S 801 (y 1) = some (y 5) := h.2.2.2.2.2.2.2.2.2.2.2.2.2.2.2.2.2.2.1
theorem Lay.r802 {S : PS} {y : Nat → Nat} (h : Lay S y) : fR S 802 (y 1) = some (y 6) := h.2.2.2.2.2.2.2.2.2.2.2.2.2.2.2.2.2.2.2.1
theorem Lay.r803 {S : PS} {y : Nat → Nat} (h : Lay S y) : fR S 803 (y 1) = some (y 7) := h.2.2.2.2.2.2.2.2.2.2.2.2.2.2.2.2.2.2.2.2.1
theorem Lay.gk {S : PS} {y : Nat → Nat} (h : Lay S y) : ∀ i, i < 6 → IsAt S 3 (y (10 + i)) := h.2.2.2.2.2.2.2.2.2.2.2.2.2.2.2.2.2.2.2.2.2.1
theorem Lay.ga {S : PS} {y : Nat → Nat} (h : Lay S y) : ∀ i, i < 6 → aQ S (y 3) i = some (y (10 + i)) := h.2.2.2.2.2.2.2.2.2.2.2.2.2.2.2.2.2.2.2.2.2.2.1
theorem Lay.r300 {S : PS} {y : Nat → Nat} (h : Lay S y) : ∀ i, i < 6 → fR S 300 (y (10 + i)) = some (y (30 + i)) := h.2.2.2.2.2.2.2.2.2.2.2.2.2.2.2.2.2.2.2.2.2.2.2.1
theorem Lay.r301 {S : PS} {y : Nat → Nat} (h : Lay S y) : ∀ i, i < 6 → fR S 301 (y (10 + i)) = some (y (20 + i)) := h.2.2.2.2.2.2.2.2.2.2.2.2.2.2.2.2.2.2.2.2.2.2.2.2.1
theorem Lay.dk {S : PS} {y : Nat → Nat} (h : Lay S y) : ∀ i, i < 6 → IsAt S 18 (y (20 + i)) := h.2.2.2.2.2.2.2.2.2.2.2.2.2.2.2.2.2.2.2.2.2.2.2.2.2.1
theorem Lay.dn {S : PS} {y : Nat → Nat} (h : Lay S y) : ∀ i, i < 6 → aN S (y (20 + i)) = 8 := h.2.2.2.2.2.2.2.2.2.2.2.2.2.2.2.2.2.2.2.2.2.2.2.2.2.2.1
theorem Lay.da {S : PS} {y : Nat → Nat} (h : Lay S y) : ∀ i k, i < 6 → k < 8 → aQ S (y (20 + i)) k = some (y (100 + (8 * i + k))) := h.2.2.2.2.2.2.2.2.2.2.2.2.2.2.2.2.2.2.2.2.2.2.2.2.2.2.2.1
theorem Lay.tk {S : PS} {y : Nat → Nat} (h : Lay S y) : ∀ i, i < 7 → IsAt S 9 (y (30 + i)) := h.2.2.2.2.2.2.2.2.2.2.2.2.2.2.2.2.2.2.2.2.2.2.2.2.2.2.2.2.1
theorem Lay.bk {S : PS} {y : Nat → Nat} (h : Lay S y) : ∀ i, i < 8 → IsAt S 1 (y (40 + i)) := h.2.2.2.2.2.2.2.2.2.2.2.2.2.2.2.2.2.2.2.2.2.2.2.2.2.2.2.2.2.1
theorem Lay.ba {S : PS} {y : Nat → Nat} (h : Lay S y) : ∀ i, i < 8 → aQ S (y 5) i = some (y (40 + i)) := h.2.2.2.2.2.2.2.2.2.2.2.2.2.2.2.2.2.2.2.2.2.2.2.2.2.2.2.2.2.2.1
theorem Lay.r100 {S : PS} {y : Nat → Nat} (h : Lay S y) : ∀ i, i < 8 → fR S 100 (y (40 + i)) = some (y (50 + i)) := h.2.2.2.2.2.2.2.2.2.2.2.2.2.2.2.2.2.2.2.2.2.2.2.2.2.2.2.2.2.2.2.1
theorem Lay.ek {S : PS} {y : Nat → Nat} (h : Lay S y) : ∀ i, i < 48 → IsAt S 2 (y (100 + i)) := h.2.2.2.2.2.2.2.2.2.2.2.2.2.2.2.2.2.2.2.2.2.2.2.2.2.2.2.2.2.2.2.2.1
theorem Lay.r202 {S : PS} {y : Nat → Nat} (h : Lay S y) : ∀ i, i < 48 → fR S 202 (y (100 + i)) = some (y (200 + i)) := h.2.2.2.2.2.2.2.2.2.2.2.2.2.2.2.2.2.2.2.2.2.2.2.2.2.2.2.2.2.2.2.2.2.1
theorem Lay.ck {S : PS} {y : Nat → Nat} (h : Lay S y) : ∀ i, i < 48 → IsAt S 0 (y (300 + i)) := h.2.2.2.2.2.2.2.2.2.2.2.2.2.2.2.2.2.2.2.2.2.2.2.2.2.2.2.2.2.2.2.2.2.2.1
theorem Lay.ca {S : PS} {y : Nat → Nat} (h : Lay S y) : ∀ i, i < 48 → aQ S (y 6) i = some (y (300 + i)) := h.2.2.2.2.2.2.2.2.2.2.2.2.2.2.2.2.2.2.2.2.2.2.2.2.2.2.2.2.2.2.2.2.2.2.2.1
theorem Lay.e0 {S : PS} {y : Nat → Nat} (h : Lay S y) : ∀ i k, i < 6 → k < 8 → fI S 200 (y (100 + (8 * i + k))) = nI i := h.2.2.2.2.2.2.2.2.2.2.2.2.2.2.2.2.2.2.2.2.2.2.2.2.2.2.2.2.2.2.2.2.2.2.2.2.1
theorem Lay.e1 {S : PS} {y : Nat → Nat} (h : Lay S y) : ∀ i k, i < 6 → k < 8 → fI S 201 (y (100 + (8 * i + k))) = nI k := h.2.2.2.2.2.2.2.2.2.2.2.2.2.2.2.2.2.2.2.2.2.2.2.2.2.2.2.2.2.2.2.2.2.2.2.2.2.1
theorem Lay.inj {S : PS} {y : Nat → Nat} (h : Lay S y) : ∀ i j, y i = y j → i = j := h.2.2.2.2.2.2.2.2.2.2.2.2.2.2.2.2.2.2.2.2.2.2.2.2.2.2.2.2.2.2.2.2.2.2.2.2.2.2
/-- the class's objects show g -/
def CX (S : PS) (y : Nat → Nat) (g : MS) (c : CS) : Prop := (Lay S y) ∧ (∀ i, i < 7 → fJ S 900 (y (30 + i)) = g.2.1 1 i) ∧ (∀ i, i < 7 → fI S 901 (y (30 + i)) = g.1 2 i) ∧ (∀ i, i < 6 → fI S 302 (y (10 + i)) = g.1 20 i) ∧ (∀ i, i < 6 → aI S (y 7) i = g.1 12 i) ∧ (fI S 804 (y 1) = g.2.2 1111) ∧ (fI S 805 (y 1) = g.2.2 1107) ∧ (∀ i, i < 8 → fI S 101 (y (40 + i)) = g.1 3 i) ∧ (∀ i, i < 8 → fI S 102 (y (40 + i)) = g.1 4 i) ∧ (∀ i, i < 8 → fI S 103 (y (40 + i)) = (g.2.1 5 i).toInt32) ∧ (∀ i, i < 8 → fI S 104 (y (40 + i)) = cE c i) ∧ (∀ i, i < 8 → fI S 105 (y (40 + i)) = g.1 6 i) ∧ (∀ i, i < 48 → fI S 203 (y (100 + i)) = g.1 21 i) ∧ (∀ i, i < 48 → fI S 204 (y (100 + i)) = g.1 22 i) ∧ (∀ i, i < 48 → fI S 205 (y (100 + i)) = g.1 23 i) ∧ (∀ i, i < 48 → fI S 206 (y (100 + i)) = g.1 24 i) ∧ (∀ i, i < 48 → fI S 207 (y (100 + i)) = g.1 25 i) ∧ (∀ i, i < 48 → fI S 208 (y (100 + i)) = g.1 26 i) ∧ (∀ i, i < 48 → fI S 0 (y (300 + i)) = g.1 19 i) ∧ (∀ i, i < 48 → fI S 1 (y (300 + i)) = g.1 17 i) ∧ (∀ i, i < 48 → fI S 2 (y (300 + i)) = g.1 18 i) ∧ (∀ i k, i < 6 → k < 8 → (g.1 13 (8 * i + k) = -1 ∧ fR S 3 (y (300 + (8 * i + k))) = none) ∨ (¬ g.1 13 (8 * i + k) = -1 ∧ ∃ m, fR S 3 (y (300 + (8 * i + k))) = some m ∧ MsgAt S m 1 (nI i) (nI k) (g.1 12 i) (g.1 15 (8 * i + k)) (g.1 13 (8 * i + k)) (g.1 14 (8 * i + k)) (g.1 16 (8 * i + k)))) ∧ (fI S 701 (y 2) = g.2.2 1131) ∧ (∀ q, q < mqN g → (g.1 33 q = 0 ∧ aQ S (y 4) q = none) ∨ (g.1 33 q = 1 ∧ ∃ m, aQ S (y 4) q = some m ∧ MsgAt S m (g.1 32 (8 * q)) (g.1 32 (8 * q + 1)) (g.1 32 (8 * q + 2)) (g.1 32 (8 * q + 4)) (g.1 32 (8 * q + 3)) (g.1 32 (8 * q + 5)) (g.1 32 (8 * q + 6)) (g.1 32 (8 * q + 7)))) ∧ (∀ i, i < 48 → ∀ h, h ∈ cP c i → HAt S (cH c h) h g) ∧ (∀ i, i < 8 → ∀ h, h ∈ cQl c i → LAt S (cL c h) h g)
theorem CX.lay {S : PS} {y : Nat → Nat} {g : MS} {c : CS} (h : CX S y g c) : Lay S y := h.1
theorem CX.t0 {S : PS} {y : Nat → Nat} {g : MS} {c : CS} (h : CX S y g c) : ∀ i, i < 7 → fJ S 900 (y (30 + i)) = g.2.1 1 i := h.2.1
theorem CX.t1 {S : PS} {y : Nat → Nat} {g : MS} {c : CS} (h : CX S y g c) : ∀ i, i < 7 → fI S 901 (y (30 + i)) = g.1 2 i := h.2.2.1
theorem CX.gb {S : PS} {y : Nat → Nat} {g : MS} {c : CS} (h : CX S y g c) : ∀ i, i < 6 → fI S 302 (y (10 + i)) = g.1 20 i := h.2.2.2.1
theorem CX.hb {S : PS} {y : Nat → Nat} {g : MS} {c : CS} (h : CX S y g c) : ∀ i, i < 6 → aI S (y 7) i = g.1 12 i := h.2.2.2.2.1
theorem CX.ll {S : PS} {y : Nat → Nat} {g : MS} {c : CS} (h : CX S y g c) : fI S 804 (y 1) = g.2.2 1111 := h.2.2.2.2.2.1
theorem CX.ln {S : PS} {y : Nat → Nat} {g : MS} {c : CS} (h : CX S y g c) : fI S 805 (y 1) = g.2.2 1107 := h.2.2.2.2.2.2.1
theorem CX.b1 {S : PS} {y : Nat → Nat} {g : MS} {c : CS} (h : CX S y g c) : ∀ i, i < 8 → fI S 101 (y (40 + i)) = g.1 3 i := h.2.2.2.2.2.2.2.1
theorem CX.b2 {S : PS} {y : Nat → Nat} {g : MS} {c : CS} (h : CX S y g c) : ∀ i, i < 8 → fI S 102 (y (40 + i)) = g.1 4 i := h.2.2.2.2.2.2.2.2.1
theorem CX.b3 {S : PS} {y : Nat → Nat} {g : MS} {c : CS} (h : CX S y g c) : ∀ i, i < 8 → fI S 103 (y (40 + i)) = (g.2.1 5 i).toInt32 := h.2.2.2.2.2.2.2.2.2.1
theorem CX.b4 {S : PS} {y : Nat → Nat} {g : MS} {c : CS} (h : CX S y g c) : ∀ i, i < 8 → fI S 104 (y (40 + i)) = cE c i := h.2.2.2.2.2.2.2.2.2.2.1
theorem CX.b5 {S : PS} {y : Nat → Nat} {g : MS} {c : CS} (h : CX S y g c) : ∀ i, i < 8 → fI S 105 (y (40 + i)) = g.1 6 i := h.2.2.2.2.2.2.2.2.2.2.2.1
theorem CX.d3 {S : PS} {y : Nat → Nat} {g : MS} {c : CS} (h : CX S y g c) : ∀ i, i < 48 → fI S 203 (y (100 + i)) = g.1 21 i := h.2.2.2.2.2.2.2.2.2.2.2.2.1
theorem CX.d4 {S : PS} {y : Nat → Nat} {g : MS} {c : CS} (h : CX S y g c) : ∀ i, i < 48 → fI S 204 (y (100 + i)) = g.1 22 i := h.2.2.2.2.2.2.2.2.2.2.2.2.2.1
theorem CX.d5 {S : PS} {y : Nat → Nat} {g : MS} {c : CS} (h : CX S y g c) : ∀ i, i < 48 → fI S 205 (y (100 + i)) = g.1 23 i := h.2.2.2.2.2.2.2.2.2.2.2.2.2.2.1
theorem CX.d6 {S : PS} {y : Nat → Nat} {g : MS} {c : CS} (h : CX S y g c) : ∀ i, i < 48 → fI S 206 (y (100 + i)) = g.1 24 i := h.2.2.2.2.2.2.2.2.2.2.2.2.2.2.2.1
theorem CX.d7 {S : PS} {y : Nat → Nat} {g : MS} {c : CS} (h : CX S y g c) : ∀ i, i < 48 → fI S 207 (y (100 + i)) = g.1 25 i := h.2.2.2.2.2.2.2.2.2.2.2.2.2.2.2.2.1
theorem CX.d8 {S : PS} {y : Nat → Nat} {g : MS} {c : CS} (h : CX S y g c) : ∀ i, i < 48 → fI S 208 (y (100 + i)) = g.1 26 i := h.2.2.2.2.2.2.2.2.2.2.2.2.2.2.2.2.2.1
theorem CX.a0 {S : PS} {y : Nat → Nat} {g : MS} {c : CS} (h : CX S y g c) : ∀ i, i < 48 → fI S 0 (y (300 + i)) = g.1 19 i := h.2.2.2.2.2.2.2.2.2.2.2.2.2.2.2.2.2.2.1
theorem CX.a1 {S : PS} {y : Nat → Nat} {g : MS} {c : CS} (h : CX S y g c) : ∀ i, i < 48 → fI S 1 (y (300 + i)) = g.1 17 i := h.2.2.2.2.2.2.2.2.2.2.2.2.2.2.2.2.2.2.2.1
theorem CX.a2 {S : PS} {y : Nat → Nat} {g : MS} {c : CS} (h : CX S y g c) : ∀ i, i < 48 → fI S 2 (y (300 + i)) = g.1 18 i := h.2.2.2.2.2.2.2.2.2.2.2.2.2.2.2.2.2.2.2.2.1
theorem CX.a3 {S : PS} {y : Nat → Nat} {g : MS} {c : CS} (h : CX S y g c) : ∀ i k, i < 6 → k < 8 → (g.1 13 (8 * i + k) = -1 ∧ fR S 3 (y (300 + (8 * i + k))) = none) ∨ (¬ g.1 13 (8 * i + k) = -1 ∧ ∃ m, fR S 3 (y (300 + (8 * i + k))) = some m ∧ MsgAt S m 1 (nI i) (nI k) (g.1 12 i) (g.1 15 (8 * i + k)) (g.1 13 (8 * i + k)) (g.1 14 (8 * i + k)) (g.1 16 (8 * i + k))) := h.2.2.2.2.2.2.2.2.2.2.2.2.2.2.2.2.2.2.2.2.2.1
theorem CX.pc {S : PS} {y : Nat → Nat} {g : MS} {c : CS} (h : CX S y g c) : fI S 701 (y 2) = g.2.2 1131 := h.2.2.2.2.2.2.2.2.2.2.2.2.2.2.2.2.2.2.2.2.2.2.1
theorem CX.ms {S : PS} {y : Nat → Nat} {g : MS} {c : CS} (h : CX S y g c) : ∀ q, q < mqN g → (g.1 33 q = 0 ∧ aQ S (y 4) q = none) ∨ (g.1 33 q = 1 ∧ ∃ m, aQ S (y 4) q = some m ∧ MsgAt S m (g.1 32 (8 * q)) (g.1 32 (8 * q + 1)) (g.1 32 (8 * q + 2)) (g.1 32 (8 * q + 4)) (g.1 32 (8 * q + 3)) (g.1 32 (8 * q + 5)) (g.1 32 (8 * q + 6)) (g.1 32 (8 * q + 7))) := h.2.2.2.2.2.2.2.2.2.2.2.2.2.2.2.2.2.2.2.2.2.2.2.1
theorem CX.hv {S : PS} {y : Nat → Nat} {g : MS} {c : CS} (h : CX S y g c) : ∀ i, i < 48 → ∀ h, h ∈ cP c i → HAt S (cH c h) h g := h.2.2.2.2.2.2.2.2.2.2.2.2.2.2.2.2.2.2.2.2.2.2.2.2.1
theorem CX.bv {S : PS} {y : Nat → Nat} {g : MS} {c : CS} (h : CX S y g c) : ∀ i, i < 8 → ∀ h, h ∈ cQl c i → LAt S (cL c h) h g := h.2.2.2.2.2.2.2.2.2.2.2.2.2.2.2.2.2.2.2.2.2.2.2.2.2
/-- the class's lists -/
def CQ (S : PS) (y : Nat → Nat) (dE : Nat) (c : CS) : Prop := (∀ i, i < 48 → AL S dE (y (200 + i)) (cA c i) ((cP c i).map (cH c))) ∧ (∀ i, i < 8 → AL S dE (y (50 + i)) (cA c (48 + i)) ((cQl c i).map (cL c))) ∧ (∀ i j, i < 56 → j < 56 → cA c i = cA c j → i = j ∨ cA c i = dE) ∧ (dE ∉ pL S)
theorem CQ.hl {S : PS} {y : Nat → Nat} {dE : Nat} {c : CS} (h : CQ S y dE c) : ∀ i, i < 48 → AL S dE (y (200 + i)) (cA c i) ((cP c i).map (cH c)) := h.1
theorem CQ.bl {S : PS} {y : Nat → Nat} {dE : Nat} {c : CS} (h : CQ S y dE c) : ∀ i, i < 8 → AL S dE (y (50 + i)) (cA c (48 + i)) ((cQl c i).map (cL c)) := h.2.1
theorem CQ.ai {S : PS} {y : Nat → Nat} {dE : Nat} {c : CS} (h : CQ S y dE c) : ∀ i j, i < 56 → j < 56 → cA c i = cA c j → i = j ∨ cA c i = dE := h.2.2.1
theorem CQ.nd {S : PS} {y : Nat → Nat} {dE : Nat} {c : CS} (h : CQ S y dE c) : dE ∉ pL S := h.2.2.2
def CR (S : PS) (y : Nat → Nat) (dE : Nat) (g : MS) (c : CS) : Prop := CX S y g c ∧ CQ S y dE c
theorem nI_ij {a b : Nat} (h : nI a = nI b) (ha : a < 300) (hb : b < 300) : a = b := (nI_eq (by omega) (by omega)).mp h
theorem up_same {α : Type} (f : Nat → α) (i : Nat) (v : α) : va_up f i v i = v := by simp [va_up]
theorem up2_same {α : Type} (f : Nat → Nat → α) (j i : Nat) (v : α) : va_up f j (va_up (f j) i v) j i = v := by simp [va_up]
theorem iI_s {g : MS} {j i : Nat} {v : Int32} : (iI g j i v).1 j i = v := up2_same _ _ _ _
theorem iL_s {g : MS} {j i : Nat} {v : Int64} : (iL g j i v).2.1 j i = v := up2_same _ _ _ _
theorem iF_s {g : MS} {f : Nat} {v : Int32} : (iF g f v).2.2 f = v := up_same _ _ _
theorem up2_other {α : Type} (f : Nat → Nat → α) (j i k : Nat) (v : α) (h : k ≠ i) : va_up f j (va_up (f j) i v) j k = f j k := by simp [va_up, h]
theorem iI_o {g : MS} {j i k : Nat} {v : Int32} (h : k ≠ i) : (iI g j i v).1 j k = g.1 j k := up2_other _ _ _ _ _ h
theorem iL_o {g : MS} {j i k : Nat} {v : Int64} (h : k ≠ i) : (iL g j i v).2.1 j k = g.2.1 j k := up2_other _ _ _ _ _ h
set_option maxRecDepth 10000
theorem CX.wt1 {S : PS} {y : Nat → Nat} {g : MS} {c : CS} {i : Nat} {v : Int32} (h : CX S y g c) : CX (sI S 901 (y (30 + i)) v) y (iI g 2 i v) c := by
  exact ⟨h.lay, h.t0, (fun j hj => by
    by_cases e : j = i
    · subst e; exact (sI_s).trans (iI_s).symm
    · exact (sI_a (fun z => e (by have := h.lay.inj _ _ z; omega))).trans ((h.t1 j hj).trans (iI_o e).symm)), h.gb, h.hb, h.ll, h.ln, h.b1, h.b2, h.b3, h.b4, h.b5, h.d3, h.d4, h.d5, h.d6, h.d7, h.d8, h.a0, h.a1, h.a2, h.a3, h.pc, h.ms, h.hv, h.bv⟩
theorem CX.wgb {S : PS} {y : Nat → Nat} {g : MS} {c : CS} {i : Nat} {v : Int32} (h : CX S y g c) : CX (sI S 302 (y (10 + i)) v) y (iI g 20 i v) c := by
  exact ⟨h.lay, h.t0, h.t1, (fun j hj => by
    by_cases e : j = i
    · subst e; exact (sI_s).trans (iI_s).symm
    · exact (sI_a (fun z => e (by have := h.lay.inj _ _ z; omega))).trans ((h.gb j hj).trans (iI_o e).symm)), h.hb, h.ll, h.ln, h.b1, h.b2, h.b3, h.b4, h.b5, h.d3, h.d4, h.d5, h.d6, h.d7, h.d8, h.a0, h.a1, h.a2, h.a3, h.pc, h.ms, h.hv, h.bv⟩
theorem CX.wb1 {S : PS} {y : Nat → Nat} {g : MS} {c : CS} {i : Nat} {v : Int32} (h : CX S y g c) : CX (sI S 101 (y (40 + i)) v) y (iI g 3 i v) c := by
  exact ⟨h.lay, h.t0, h.t1, h.gb, h.hb, h.ll, h.ln, (fun j hj => by
    by_cases e : j = i
    · subst e; exact (sI_s).trans (iI_s).symm
    · exact (sI_a (fun z => e (by have := h.lay.inj _ _ z; omega))).trans ((h.b1 j hj).trans (iI_o e).symm)), h.b2, h.b3, h.b4, h.b5, h.d3, h.d4, h.d5, h.d6, h.d7, h.d8, h.a0, h.a1, h.a2, h.a3, h.pc, h.ms, h.hv, h.bv⟩
theorem CX.wb2 {S : PS} {y : Nat → Nat} {g : MS} {c : CS} {i : Nat} {v : Int32} (h : CX S y g c) : CX (sI S 102 (y (40 + i)) v) y (iI g 4 i v) c := by
  exact ⟨h.lay, h.t0, h.t1, h.gb, h.hb, h.ll, h.ln, h.b1, (fun j hj => by
    by_cases e : j = i
    · subst e; exact (sI_s).trans (iI_s).symm
    · exact (sI_a (fun z => e (by have := h.lay.inj _ _ z; omega))).trans ((h.b2 j hj).trans (iI_o e).symm)), h.b3, h.b4, h.b5, h.d3, h.d4, h.d5, h.d6, h.d7, h.d8, h.a0, h.a1, h.a2, h.a3, h.pc, h.ms, h.hv, h.bv⟩
theorem CX.wb5 {S : PS} {y : Nat → Nat} {g : MS} {c : CS} {i : Nat} {v : Int32} (h : CX S y g c) : CX (sI S 105 (y (40 + i)) v) y (iI g 6 i v) c := by
  exact ⟨h.lay, h.t0, h.t1, h.gb, h.hb, h.ll, h.ln, h.b1, h.b2, h.b3, h.b4, (fun j hj => by
    by_cases e : j = i
    · subst e; exact (sI_s).trans (iI_s).symm
    · exact (sI_a (fun z => e (by have := h.lay.inj _ _ z; omega))).trans ((h.b5 j hj).trans (iI_o e).symm)), h.d3, h.d4, h.d5, h.d6, h.d7, h.d8, h.a0, h.a1, h.a2, h.a3, h.pc, h.ms, h.hv, h.bv⟩
theorem CX.wd3 {S : PS} {y : Nat → Nat} {g : MS} {c : CS} {i : Nat} {v : Int32} (h : CX S y g c) : CX (sI S 203 (y (100 + i)) v) y (iI g 21 i v) c := by
  exact ⟨h.lay, h.t0, h.t1, h.gb, h.hb, h.ll, h.ln, h.b1, h.b2, h.b3, h.b4, h.b5, (fun j hj => by
    by_cases e : j = i
    · subst e; exact (sI_s).trans (iI_s).symm
    · exact (sI_a (fun z => e (by have := h.lay.inj _ _ z; omega))).trans ((h.d3 j hj).trans (iI_o e).symm)), h.d4, h.d5, h.d6, h.d7, h.d8, h.a0, h.a1, h.a2, h.a3, h.pc, h.ms, h.hv, h.bv⟩
theorem CX.wd4 {S : PS} {y : Nat → Nat} {g : MS} {c : CS} {i : Nat} {v : Int32} (h : CX S y g c) : CX (sI S 204 (y (100 + i)) v) y (iI g 22 i v) c := by
  exact ⟨h.lay, h.t0, h.t1, h.gb, h.hb, h.ll, h.ln, h.b1, h.b2, h.b3, h.b4, h.b5, h.d3, (fun j hj => by
    by_cases e : j = i
    · subst e; exact (sI_s).trans (iI_s).symm
    · exact (sI_a (fun z => e (by have := h.lay.inj _ _ z; omega))).trans ((h.d4 j hj).trans (iI_o e).symm)), h.d5, h.d6, h.d7, h.d8, h.a0, h.a1, h.a2, h.a3, h.pc, h.ms, h.hv, h.bv⟩
theorem CX.wd5 {S : PS} {y : Nat → Nat} {g : MS} {c : CS} {i : Nat} {v : Int32} (h : CX S y g c) : CX (sI S 205 (y (100 + i)) v) y (iI g 23 i v) c := by
  exact ⟨h.lay, h.t0, h.t1, h.gb, h.hb, h.ll, h.ln, h.b1, h.b2, h.b3, h.b4, h.b5, h.d3, h.d4, (fun j hj => by
    by_cases e : j = i
    · subst e; exact (sI_s).trans (iI_s).symm
    · exact (sI_a (fun z => e (by have := h.lay.inj _ _ z; omega))).trans ((h.d5 j hj).trans (iI_o e).symm)), h.d6, h.d7, h.d8, h.a0, h.a1, h.a2, h.a3, h.pc, h.ms, h.hv, h.bv⟩
theorem CX.wd6 {S : PS} {y : Nat → Nat} {g : MS} {c : CS} {i : Nat} {v : Int32} (h : CX S y g c) : CX (sI S 206 (y (100 + i)) v) y (iI g 24 i v) c := by
  exact ⟨h.lay, h.t0, h.t1, h.gb, h.hb, h.ll, h.ln, h.b1, h.b2, h.b3, h.b4, h.b5, h.d3, h.d4, h.d5, (fun j hj => by
    by_cases e : j = i
    · subst e; exact (sI_s).trans (iI_s).symm
    · exact (sI_a (fun z => e (by have := h.lay.inj _ _ z; omega))).trans ((h.d6 j hj).trans (iI_o e).symm)), h.d7, h.d8, h.a0, h.a1, h.a2, h.a3, h.pc, h.ms, h.hv, h.bv⟩
theorem CX.wd7 {S : PS} {y : Nat → Nat} {g : MS} {c : CS} {i : Nat} {v : Int32} (h : CX S y g c) : CX (sI S 207 (y (100 + i)) v) y (iI g 25 i v) c := by
  exact ⟨h.lay, h.t0, h.t1, h.gb, h.hb, h.ll, h.ln, h.b1, h.b2, h.b3, h.b4, h.b5, h.d3, h.d4, h.d5, h.d6, (fun j hj => by
    by_cases e : j = i
    · subst e; exact (sI_s).trans (iI_s).symm
    · exact (sI_a (fun z => e (by have := h.lay.inj _ _ z; omega))).trans ((h.d7 j hj).trans (iI_o e).symm)), h.d8, h.a0, h.a1, h.a2, h.a3, h.pc, h.ms, h.hv, h.bv⟩
theorem CX.wd8 {S : PS} {y : Nat → Nat} {g : MS} {c : CS} {i : Nat} {v : Int32} (h : CX S y g c) : CX (sI S 208 (y (100 + i)) v) y (iI g 26 i v) c := by
  exact ⟨h.lay, h.t0, h.t1, h.gb, h.hb, h.ll, h.ln, h.b1, h.b2, h.b3, h.b4, h.b5, h.d3, h.d4, h.d5, h.d6, h.d7, (fun j hj => by
    by_cases e : j = i
    · subst e; exact (sI_s).trans (iI_s).symm
    · exact (sI_a (fun z => e (by have := h.lay.inj _ _ z; omega))).trans ((h.d8 j hj).trans (iI_o e).symm)), h.a0, h.a1, h.a2, h.a3, h.pc, h.ms, h.hv, h.bv⟩
theorem CX.wa0 {S : PS} {y : Nat → Nat} {g : MS} {c : CS} {i : Nat} {v : Int32} (h : CX S y g c) : CX (sI S 0 (y (300 + i)) v) y (iI g 19 i v) c := by
  exact ⟨h.lay, h.t0, h.t1, h.gb, h.hb, h.ll, h.ln, h.b1, h.b2, h.b3, h.b4, h.b5, h.d3, h.d4, h.d5, h.d6, h.d7, h.d8, (fun j hj => by
    by_cases e : j = i
    · subst e; exact (sI_s).trans (iI_s).symm
    · exact (sI_a (fun z => e (by have := h.lay.inj _ _ z; omega))).trans ((h.a0 j hj).trans (iI_o e).symm)), h.a1, h.a2, h.a3, h.pc, h.ms, h.hv, h.bv⟩
theorem CX.wa1 {S : PS} {y : Nat → Nat} {g : MS} {c : CS} {i : Nat} {v : Int32} (h : CX S y g c) : CX (sI S 1 (y (300 + i)) v) y (iI g 17 i v) c := by
  exact ⟨h.lay, h.t0, h.t1, h.gb, h.hb, h.ll, h.ln, h.b1, h.b2, h.b3, h.b4, h.b5, h.d3, h.d4, h.d5, h.d6, h.d7, h.d8, h.a0, (fun j hj => by
    by_cases e : j = i
    · subst e; exact (sI_s).trans (iI_s).symm
    · exact (sI_a (fun z => e (by have := h.lay.inj _ _ z; omega))).trans ((h.a1 j hj).trans (iI_o e).symm)), h.a2, h.a3, h.pc, h.ms, h.hv, h.bv⟩
theorem CX.wa2 {S : PS} {y : Nat → Nat} {g : MS} {c : CS} {i : Nat} {v : Int32} (h : CX S y g c) : CX (sI S 2 (y (300 + i)) v) y (iI g 18 i v) c := by
  exact ⟨h.lay, h.t0, h.t1, h.gb, h.hb, h.ll, h.ln, h.b1, h.b2, h.b3, h.b4, h.b5, h.d3, h.d4, h.d5, h.d6, h.d7, h.d8, h.a0, h.a1, (fun j hj => by
    by_cases e : j = i
    · subst e; exact (sI_s).trans (iI_s).symm
    · exact (sI_a (fun z => e (by have := h.lay.inj _ _ z; omega))).trans ((h.a2 j hj).trans (iI_o e).symm)), h.a3, h.pc, h.ms, h.hv, h.bv⟩
theorem CX.wt0 {S : PS} {y : Nat → Nat} {g : MS} {c : CS} {i : Nat} {v : Int64} (h : CX S y g c) : CX (sJ S 900 (y (30 + i)) v) y (iL g 1 i v) c := by
  exact ⟨h.lay, (fun j hj => by
    by_cases e : j = i
    · subst e; exact (sJ_s).trans (iL_s).symm
    · exact (sJ_a (fun z => e (by have := h.lay.inj _ _ z; omega))).trans ((h.t0 j hj).trans (iL_o e).symm)), h.t1, h.gb, h.hb, h.ll, h.ln, h.b1, h.b2, h.b3, h.b4, h.b5, h.d3, h.d4, h.d5, h.d6, h.d7, h.d8, h.a0, h.a1, h.a2, h.a3, h.pc, h.ms, h.hv, h.bv⟩
theorem CX.wll {S : PS} {y : Nat → Nat} {g : MS} {c : CS} {v : Int32} (h : CX S y g c) : CX (sI S 804 (y 1) v) y (iF g 1111 v) c := by
  exact ⟨h.lay, h.t0, h.t1, h.gb, h.hb, (sI_s).trans iF_s.symm, h.ln, h.b1, h.b2, h.b3, h.b4, h.b5, h.d3, h.d4, h.d5, h.d6, h.d7, h.d8, h.a0, h.a1, h.a2, h.a3, h.pc, h.ms, h.hv, h.bv⟩
theorem CX.wln {S : PS} {y : Nat → Nat} {g : MS} {c : CS} {v : Int32} (h : CX S y g c) : CX (sI S 805 (y 1) v) y (iF g 1107 v) c := by
  exact ⟨h.lay, h.t0, h.t1, h.gb, h.hb, h.ll, (sI_s).trans iF_s.symm, h.b1, h.b2, h.b3, h.b4, h.b5, h.d3, h.d4, h.d5, h.d6, h.d7, h.d8, h.a0, h.a1, h.a2, h.a3, h.pc, h.ms, h.hv, h.bv⟩
theorem CX.wb3 {S : PS} {y : Nat → Nat} {g : MS} {c : CS} {i : Nat} {v : Int32} {w : Int64} (e1 : w.toInt32 = v) (h : CX S y g c) : CX (sI S 103 (y (40 + i)) v) y (iL g 5 i w) c := by
  exact ⟨h.lay, h.t0, h.t1, h.gb, h.hb, h.ll, h.ln, h.b1, h.b2, (fun j hj => by
    by_cases e : j = i
    · subst e; rw [show (iL g 5 j w).2.1 5 j = w from iL_s, e1]; exact sI_s
    · exact (sI_a (fun z => e (by have := h.lay.inj _ _ z; omega))).trans ((h.b3 j hj).trans (congrArg Int64.toInt32 (iL_o e).symm))), h.b4, h.b5, h.d3, h.d4, h.d5, h.d6, h.d7, h.d8, h.a0, h.a1, h.a2, h.a3, h.pc, h.ms, h.hv, h.bv⟩
def csE (c : CS) (i : Nat) (v : Int32) : CS := (cA c, cH c, cL c, cP c, cQl c, va_up (cE c) i v)
theorem csE_s {c : CS} {i : Nat} {v : Int32} : cE (csE c i v) i = v := up_same _ _ _
theorem csE_o {c : CS} {i j : Nat} {v : Int32} (h : j ≠ i) : cE (csE c i v) j = cE c j := va_up_ne _ _ h
theorem CX.wb4 {S : PS} {y : Nat → Nat} {g : MS} {c : CS} {i : Nat} {v : Int32} (h : CX S y g c) : CX (sI S 104 (y (40 + i)) v) y g (csE c i v) := by
  exact ⟨h.lay, h.t0, h.t1, h.gb, h.hb, h.ll, h.ln, h.b1, h.b2, h.b3, (fun j hj => by
    by_cases e : j = i
    · subst e; exact (sI_s).trans csE_s.symm
    · exact (sI_a (fun z => e (by have := h.lay.inj _ _ z; omega))).trans ((h.b4 j hj).trans (csE_o e).symm)), h.b5, h.d3, h.d4, h.d5, h.d6, h.d7, h.d8, h.a0, h.a1, h.a2, h.a3, h.pc, h.ms, h.hv, h.bv⟩
theorem CX.whold {S : PS} {y : Nat → Nat} {g : MS} {c : CS} {h0 : Nat} {v : Int32} (h : CX S y g c) (k2 : fI S 400 (cH c h0) = nI h0) (k6 : h0 < 300) : CX (sI S 403 (cH c h0) v) y (iI g 28 h0 v) c := by
  exact ⟨h.lay, h.t0, h.t1, h.gb, h.hb, h.ll, h.ln, h.b1, h.b2, h.b3, h.b4, h.b5, h.d3, h.d4, h.d5, h.d6, h.d7, h.d8, h.a0, h.a1, h.a2, h.a3, h.pc, h.ms, (fun j hj h2 hm => by
    obtain ⟨z1, z2, z3, z4, z5, z6⟩ := h.hv j hj h2 hm
    by_cases e : h2 = h0
    · subst e; exact ⟨z1, z2, z3, z4, (sI_s).trans iI_s.symm, z6⟩
    · exact ⟨z1, z2, z3, z4, (sI_a (fun z => e (nI_ij (z2.symm.trans ((congrArg (fI S 400) z).trans k2)) z6 k6))).trans (z5.trans (iI_o e).symm), z6⟩), h.bv⟩
theorem CX.whb {S : PS} {y : Nat → Nat} {g : MS} {c : CS} {i : Nat} {v : Int32} (h : CX S y g c) (hf : ∀ k, k < 8 → g.1 13 (8 * i + k) = -1) : CX (tI S (y 7) i v) y (iI g 12 i v) c := by
  exact ⟨h.lay, h.t0, h.t1, h.gb, (fun j hj => by
    by_cases e : j = i
    · subst e; rw [tI_s]; exact (up_same _ _ _).trans iI_s.symm
    · rw [tI_s, va_up_ne _ _ e]; exact (h.hb j hj).trans (iI_o e).symm), h.ll, h.ln, h.b1, h.b2, h.b3, h.b4, h.b5, h.d3, h.d4, h.d5, h.d6, h.d7, h.d8, h.a0, h.a1, h.a2, (fun j k hj hk => by
    have e : j ≠ i ∨ g.1 13 (8 * j + k) = -1 := by
      by_cases z : j = i
      · subst z; exact Or.inr (hf k hk)
      · exact Or.inl z
    rcases h.a3 j k hj hk with z | z
    · exact Or.inl z
    · refine Or.inr ⟨z.1, ?_⟩
      obtain ⟨m, m1, m2⟩ := z.2
      refine ⟨m, m1, ?_⟩
      rw [show (iI g 12 i v).1 12 j = g.1 12 j from iI_o (e.elim id (fun y => absurd y z.1))]
      exact m2), h.pc, h.ms, h.hv, h.bv⟩
theorem Fr.msg {S S2 : PS} {M : Nat → Prop} {m : Nat} {a b c d e f g h : Int32} (hF : Fr S S2 M) (hM : ∀ x, x ∈ pL S → M x → pK S x = 12 ∨ pK S x = 21) (z : MsgAt S m a b c d e f g h) : MsgAt S2 m a b c d e f g h := by
  obtain ⟨k, z⟩ := z
  obtain ⟨q, -⟩ := hF.2 m k.1 (fun y => by rcases hM m k.1 y with u | u <;> rw [k.2] at u <;> exact absurd u (by decide))
  exact ⟨hF.1 _ _ k, by rw [q]; exact z.1, by rw [q]; exact z.2.1, by rw [q]; exact z.2.2.1, by rw [q]; exact z.2.2.2.1, by rw [q]; exact z.2.2.2.2.1, by rw [q]; exact z.2.2.2.2.2.1, by rw [q]; exact z.2.2.2.2.2.2.1, by rw [q]; exact z.2.2.2.2.2.2.2⟩
abbrev LK (S : PS) (M : Nat → Prop) : Prop := ∀ x, x ∈ pL S → M x → pK S x = 12 ∨ pK S x = 21
theorem LK.no {S : PS} {M : Nat → Prop} (h : LK S M) {k a : Nat} (hA : IsAt S k a) (hk : k ≠ 12 ∧ k ≠ 21) : ¬ M a := fun y => (h a hA.1 y).elim (fun u => hk.1 (hA.2.symm.trans u)) (fun u => hk.2 (hA.2.symm.trans u))
theorem HAt.fr {S S2 : PS} {M : Nat → Prop} {b h : Nat} {g : MS} (z : HAt S b h g) (hF : Fr S S2 M) (hM : ¬ M b) : HAt S2 b h g := by
  obtain ⟨q, -⟩ := hF.2 b z.1.1 hM
  exact ⟨hF.1 _ _ z.1, by rw [q]; exact z.2.1, by rw [q]; exact z.2.2.1, by rw [q]; exact z.2.2.2.1, by rw [q]; exact z.2.2.2.2.1, z.2.2.2.2.2⟩
theorem LAt.fr {S S2 : PS} {M : Nat → Prop} {b h : Nat} {g : MS} (z : LAt S b h g) (hF : Fr S S2 M) (hM : ¬ M b) : LAt S2 b h g := by
  obtain ⟨q, -⟩ := hF.2 b z.1.1 hM
  exact ⟨hF.1 _ _ z.1, by rw [q]; exact z.2.1, by rw [q]; exact z.2.2.1, by rw [q]; exact z.2.2.2.1, z.2.2.2.2⟩
theorem Lay.fr {S S2 : PS} {y : Nat → Nat} {M : Nat → Prop} (h : Lay S y) (hF : Fr S S2 M) (hM : LK S M) : Lay S2 y := by
  exact ⟨hF.1 _ _ (h.k0 ), hF.1 _ _ (h.k1 ), hF.1 _ _ (h.k2 ), hF.1 _ _ (h.k3 ), hF.1 _ _ (h.k4 ), hF.1 _ _ (h.k5 ), hF.1 _ _ (h.k6 ), hF.1 _ _ (h.k7 ), ((hF.2 _ (h.k3).1 (hM.no (h.k3) (by decide))).2.2.2.1).trans (h.n3 ), ((hF.2 _ (h.k4).1 (hM.no (h.k4) (by decide))).2.2.2.1).trans (h.n4 ), ((hF.2 _ (h.k5).1 (hM.no (h.k5) (by decide))).2.2.2.1).trans (h.n5 ), ((hF.2 _ (h.k6).1 (hM.no (h.k6) (by decide))).2.2.2.1).trans (h.n6 ), ((hF.2 _ (h.k7).1 (hM.no (h.k7) (by decide))).2.2.2.1).trans (h.n7 ), ((hF.2 _ (h.k0).1 (hM.no (h.k0) (by decide))).2.2.1 _).trans (h.r1000 ), ((hF.2 _ (h.k0).1 (hM.no (h.k0) (by decide))).2.2.1 _).trans (h.r1001 ), ((hF.2 _ (h.k0).1 (hM.no (h.k0) (by decide))).2.2.1 _).trans (h.r1002 ), ((hF.2 _ (h.k2).1 (hM.no (h.k2) (by decide))).2.2.1 _).trans (h.r700 ), ((hF.2 _ (h.k1).1 (hM.no (h.k1) (by decide))).2.2.1 _).trans (h.r800 ), ((hF.2 _ (h.k1).1 (hM.no (h.k1) (by decide))).2.2.1 _).trans (h.r801 ), ((hF.2 _ (h.k1).1 (hM.no (h.k1) (by decide))).2.2.1 _).trans (h.r802 ), ((hF.2 _ (h.k1).1 (hM.no (h.k1) (by decide))).2.2.1 _).trans (h.r803 ), fun i hi => hF.1 _ _ (h.gk i hi), fun i hi => (congrFun ((hF.2 _ (h.k3).1 (hM.no (h.k3) (by decide))).2.2.2.2.2.2) _).trans (h.ga i hi), fun i hi => ((hF.2 _ (h.gk i (by omega)).1 (hM.no (h.gk i (by omega)) (by decide))).2.2.1 _).trans (h.r300 i hi), fun i hi => ((hF.2 _ (h.gk i (by omega)).1 (hM.no (h.gk i (by omega)) (by decide))).2.2.1 _).trans (h.r301 i hi), fun i hi => hF.1 _ _ (h.dk i hi), fun i hi => ((hF.2 _ (h.dk i (by omega)).1 (hM.no (h.dk i (by omega)) (by decide))).2.2.2.1).trans (h.dn i hi), fun i k hi hk => (congrFun ((hF.2 _ (h.dk i (by omega)).1 (hM.no (h.dk i (by omega)) (by decide))).2.2.2.2.2.2) _).trans (h.da i k hi hk), fun i hi => hF.1 _ _ (h.tk i hi), fun i hi => hF.1 _ _ (h.bk i hi), fun i hi => (congrFun ((hF.2 _ (h.k5).1 (hM.no (h.k5) (by decide))).2.2.2.2.2.2) _).trans (h.ba i hi), fun i hi => ((hF.2 _ (h.bk i (by omega)).1 (hM.no (h.bk i (by omega)) (by decide))).2.2.1 _).trans (h.r100 i hi), fun i hi => hF.1 _ _ (h.ek i hi), fun i hi => ((hF.2 _ (h.ek i (by omega)).1 (hM.no (h.ek i (by omega)) (by decide))).2.2.1 _).trans (h.r202 i hi), fun i hi => hF.1 _ _ (h.ck i hi), fun i hi => (congrFun ((hF.2 _ (h.k6).1 (hM.no (h.k6) (by decide))).2.2.2.2.2.2) _).trans (h.ca i hi), fun i k hi hk => ((hF.2 _ (h.ek (8 * i + k) (by omega)).1 (hM.no (h.ek (8 * i + k) (by omega)) (by decide))).1 _).trans (h.e0 i k hi hk), fun i k hi hk => ((hF.2 _ (h.ek (8 * i + k) (by omega)).1 (hM.no (h.ek (8 * i + k) (by omega)) (by decide))).1 _).trans (h.e1 i k hi hk), h.inj⟩
theorem CX.fr {S S2 : PS} {y : Nat → Nat} {g : MS} {c : CS} {M : Nat → Prop} (h : CX S y g c) (hF : Fr S S2 M) (hM : LK S M) : CX S2 y g c := by
  exact ⟨h.lay.fr hF hM,
    fun i hi => ((hF.2 _ (h.lay.tk i (by omega)).1 (hM.no (h.lay.tk i (by omega)) (by decide))).2.1 _).trans (h.t0 i hi),
    fun i hi => ((hF.2 _ (h.lay.tk i (by omega)).1 (hM.no (h.lay.tk i (by omega)) (by decide))).1 _).trans (h.t1 i hi),
    fun i hi => ((hF.2 _ (h.lay.gk i (by omega)).1 (hM.no (h.lay.gk i (by omega)) (by decide))).1 _).trans (h.gb i hi),
    fun i hi => (congrFun ((hF.2 _ (h.lay.k7).1 (hM.no (h.lay.k7) (by decide))).2.2.2.2.1) _).trans (h.hb i hi),
    ((hF.2 _ (h.lay.k1).1 (hM.no (h.lay.k1) (by decide))).1 _).trans (h.ll ),
    ((hF.2 _ (h.lay.k1).1 (hM.no (h.lay.k1) (by decide))).1 _).trans (h.ln ),
    fun i hi => ((hF.2 _ (h.lay.bk i (by omega)).1 (hM.no (h.lay.bk i (by omega)) (by decide))).1 _).trans (h.b1 i hi),
    fun i hi => ((hF.2 _ (h.lay.bk i (by omega)).1 (hM.no (h.lay.bk i (by omega)) (by decide))).1 _).trans (h.b2 i hi),
    fun i hi => ((hF.2 _ (h.lay.bk i (by omega)).1 (hM.no (h.lay.bk i (by omega)) (by decide))).1 _).trans (h.b3 i hi),
    fun i hi => ((hF.2 _ (h.lay.bk i (by omega)).1 (hM.no (h.lay.bk i (by omega)) (by decide))).1 _).trans (h.b4 i hi),
    fun i hi => ((hF.2 _ (h.lay.bk i (by omega)).1 (hM.no (h.lay.bk i (by omega)) (by decide))).1 _).trans (h.b5 i hi),
    fun i hi => ((hF.2 _ (h.lay.ek i (by omega)).1 (hM.no (h.lay.ek i (by omega)) (by decide))).1 _).trans (h.d3 i hi),
    fun i hi => ((hF.2 _ (h.lay.ek i (by omega)).1 (hM.no (h.lay.ek i (by omega)) (by decide))).1 _).trans (h.d4 i hi),
    fun i hi => ((hF.2 _ (h.lay.ek i (by omega)).1 (hM.no (h.lay.ek i (by omega)) (by decide))).1 _).trans (h.d5 i hi),
    fun i hi => ((hF.2 _ (h.lay.ek i (by omega)).1 (hM.no (h.lay.ek i (by omega)) (by decide))).1 _).trans (h.d6 i hi),
    fun i hi => ((hF.2 _ (h.lay.ek i (by omega)).1 (hM.no (h.lay.ek i (by omega)) (by decide))).1 _).trans (h.d7 i hi),
    fun i hi => ((hF.2 _ (h.lay.ek i (by omega)).1 (hM.no (h.lay.ek i (by omega)) (by decide))).1 _).trans (h.d8 i hi),
    fun i hi => ((hF.2 _ (h.lay.ck i (by omega)).1 (hM.no (h.lay.ck i (by omega)) (by decide))).1 _).trans (h.a0 i hi),
    fun i hi => ((hF.2 _ (h.lay.ck i (by omega)).1 (hM.no (h.lay.ck i (by omega)) (by decide))).1 _).trans (h.a1 i hi),
    fun i hi => ((hF.2 _ (h.lay.ck i (by omega)).1 (hM.no (h.lay.ck i (by omega)) (by decide))).1 _).trans (h.a2 i hi),
    fun i k hi hk => (h.a3 i k hi hk).elim (fun z => Or.inl ⟨z.1, ((hF.2 _ (h.lay.ck (8 * i + k) (by omega)).1 (hM.no (h.lay.ck (8 * i + k) (by omega)) (by decide))).2.2.1 _).trans z.2⟩) (fun z => Or.inr ⟨z.1, z.2.elim (fun m q => ⟨m, ((hF.2 _ (h.lay.ck (8 * i + k) (by omega)).1 (hM.no (h.lay.ck (8 * i + k) (by omega)) (by decide))).2.2.1 _).trans q.1, hF.msg hM q.2⟩)⟩),
    ((hF.2 _ (h.lay.k2).1 (hM.no (h.lay.k2) (by decide))).1 _).trans (h.pc ),
    fun q hq => (h.ms q hq).elim (fun z => Or.inl ⟨z.1, (congrFun ((hF.2 _ h.lay.k4.1 (hM.no h.lay.k4 (by decide))).2.2.2.2.2.2) _).trans z.2⟩) (fun z => Or.inr ⟨z.1, z.2.elim (fun m u => ⟨m, (congrFun ((hF.2 _ h.lay.k4.1 (hM.no h.lay.k4 (by decide))).2.2.2.2.2.2) _).trans u.1, hF.msg hM u.2⟩)⟩),
    fun i hi x hx => (h.hv i hi x hx).fr hF (hM.no (h.hv i hi x hx).1 (by decide)),
    fun i hi x hx => (h.bv i hi x hx).fr hF (hM.no (h.bv i hi x hx).1 (by decide))⟩
theorem AL.fr {S S2 : PS} {M : Nat → Prop} {dE a ea : Nat} {L : List Nat} (h : AL S dE a ea L) (hF : Fr S S2 M) (ha : ¬ M a) (he : ea = dE ∨ ¬ M ea) (hd : dE ∉ pL S) : AL S2 dE a ea L := by
  obtain ⟨q1, q2, q3, -⟩ := hF.2 a h.1.1 ha
  refine ⟨hF.1 _ _ h.1, by rw [q3]; exact h.2.1, by rw [q1]; exact h.2.2.1, h.2.2.2.1, ?_⟩
  rcases h.2.2.2.2 with z | z
  · exact Or.inl z
  · have n : ¬ M ea := he.elim (fun e => absurd (by rw [← e]; exact z.1.1) hd) id
    obtain ⟨-, -, -, p1, -, -, p2⟩ := hF.2 ea z.1.1 n
    exact Or.inr ⟨hF.1 _ _ z.1, by rw [p1]; exact z.2.1, by rw [p1]; exact z.2.2.1, by rw [p1]; exact z.2.2.2.1, fun i hi => by rw [p2]; exact z.2.2.2.2 i hi⟩
/-- nothing old has changed -/
theorem CR.fr0 {S S2 : PS} {y : Nat → Nat} {dE : Nat} {g : MS} {c : CS} (h : CR S y dE g c) (hF : Fr S S2 (fun _ => False)) (hd : dE ∉ pL S2) : CR S2 y dE g c :=
  ⟨h.1.fr hF (fun _ _ z => z.elim), ⟨fun i hi => (h.2.hl i hi).fr hF (fun z => z) (Or.inr (fun z => z)) h.2.nd, fun i hi => (h.2.bl i hi).fr hF (fun z => z) (Or.inr (fun z => z)) h.2.nd, h.2.ai, hd⟩⟩
