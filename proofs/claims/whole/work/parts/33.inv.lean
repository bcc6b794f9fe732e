/-! what holds between two calls -/
/-- loan h was made for that gate, key, birth and count -/
def Lo (g : MS) (f : Nat → Nat) (h gt kk : Nat) (b c : Int32) : Prop := g.1 8 h = nI kk ∧ g.1 32 (8 * f h + 1) = nI gt ∧ g.1 32 (8 * f h + 4) = b ∧ g.1 32 (8 * f h + 5) = c
/-- a message's words -/
def MW (g : MS) (n : Nat) (f : Nat → Nat) (x0 x1 x2 x3 x4 x5 x6 x7 : Int32) : Prop := ∃ gt kk, gt < 6 ∧ kk < 8 ∧ x1 = nI gt ∧ x2 = nI kk ∧
  ((x0 = 0 ∧ 0 < x3.toInt ∧ 0 ≤ x5.toInt) ∨
   (x0 = 1 ∧ (0 ≤ x3.toInt ∧ x3.toInt ≤ 1000000) ∧ (0 ≤ x7.toInt ∧ x7.toInt ≤ 9000) ∧ (0 < x3.toInt → ∃ h, h < n ∧ x6 = nI h ∧ Lo g f h gt kk x4 x5)) ∨
   (x0 = 2 ∧ 0 ≤ x3.toInt ∧ ∃ h, h < n ∧ x6 = nI h ∧ g.1 8 h = nI kk))
def MV (g : MS) (n : Nat) (f : Nat → Nat) (q : Nat) : Prop := MW g n f (g.1 32 (8 * q)) (g.1 32 (8 * q + 1)) (g.1 32 (8 * q + 2)) (g.1 32 (8 * q + 3)) (g.1 32 (8 * q + 4)) (g.1 32 (8 * q + 5)) (g.1 32 (8 * q + 6)) (g.1 32 (8 * q + 7))
def LV (g : MS) (f : Nat → Nat) (h : Nat) : Prop := f h < mqN g ∧ ∃ gt kk, gt < 6 ∧ kk < 8 ∧ g.1 8 h = nI kk ∧ g.1 32 (8 * f h + 1) = nI gt ∧ g.1 32 (8 * f h + 2) = nI kk ∧ (g.1 32 (8 * f h + 4)).toInt ≤ (g.1 12 gt).toInt ∧ (g.1 32 (8 * f h + 4) = g.1 12 gt → (g.1 32 (8 * f h + 5)).toInt ≤ (g.1 13 (8 * gt + kk)).toInt)
def AV (g : MS) (n : Nat) (f : Nat → Nat) (gt kk : Nat) : Prop := g.1 13 (8 * gt + kk) = -1 ∨ (0 ≤ (g.1 13 (8 * gt + kk)).toInt ∧ (0 ≤ (g.1 15 (8 * gt + kk)).toInt ∧ (g.1 15 (8 * gt + kk)).toInt ≤ 1000000) ∧ (0 ≤ (g.1 16 (8 * gt + kk)).toInt ∧ (g.1 16 (8 * gt + kk)).toInt ≤ 9000) ∧ (0 < (g.1 15 (8 * gt + kk)).toInt → ∃ h, h < n ∧ g.1 14 (8 * gt + kk) = nI h ∧ Lo g f h gt kk (g.1 12 gt) (g.1 13 (8 * gt + kk))))
def G3 (g : MS) (n : Nat) (f : Nat → Nat) : Prop := ∀ h h2, h < h2 → h2 < n → g.1 32 (8 * f h + 1) = g.1 32 (8 * f h2 + 1) → g.1 8 h = g.1 8 h2 → g.1 32 (8 * f h + 4) = g.1 32 (8 * f h2 + 4) → (g.1 32 (8 * f h + 5)).toInt < (g.1 32 (8 * f h2 + 5)).toInt
def HV (g : MS) (n : Nat) (f : Nat → Nat) (h : Nat) : Prop := h < n ∧ ∃ gt kk, gt < 6 ∧ kk < 8 ∧ g.1 27 h = nI (gt + 1) ∧ (∃ c, Lo g f h gt kk (g.1 20 gt) c ∧ c.toInt ≤ (g.1 23 (8 * gt + kk)).toInt ∧ (¬ g.1 24 (8 * gt + kk) = 0 → c.toInt < (g.1 23 (8 * gt + kk)).toInt)) ∧ (1 ≤ (g.1 28 h).toInt ∧ (g.1 28 h).toInt ≤ 1000000) ∧ HT g h
/-- numbers -/
def IA (g : MS) (n c : Nat) : Prop := (n ≤ 300) ∧ (g.2.2 1107 = nI n) ∧ (BInv g n) ∧ (WOk g) ∧ (10 ≤ (g.2.2 1111).toInt ∧ (g.2.2 1111).toInt ≤ 9000) ∧ (∀ i, i < 7 → (0 ≤ (g.2.1 1 i).toInt ∧ (g.2.1 1 i).toInt ≤ 5005000 * c) ∧ 999 ≤ (g.1 2 i).toInt ∧ (g.1 2 i).toInt ≤ 1001) ∧ (LvOk g n (mClk g 6).toInt)
theorem IA.n3 {g : MS} {n c : Nat} (H9 : IA g n c) : n ≤ 300 := H9.1
theorem IA.nl {g : MS} {n c : Nat} (H9 : IA g n c) : g.2.2 1107 = nI n := H9.2.1
theorem IA.bi {g : MS} {n c : Nat} (H9 : IA g n c) : BInv g n := H9.2.2.1
theorem IA.wo {g : MS} {n c : Nat} (H9 : IA g n c) : WOk g := H9.2.2.2.1
theorem IA.ln {g : MS} {n c : Nat} (H9 : IA g n c) : 10 ≤ (g.2.2 1111).toInt ∧ (g.2.2 1111).toInt ≤ 9000 := H9.2.2.2.2.1
theorem IA.ck {g : MS} {n c : Nat} (H9 : IA g n c) : ∀ i, i < 7 → (0 ≤ (g.2.1 1 i).toInt ∧ (g.2.1 1 i).toInt ≤ 5005000 * c) ∧ 999 ≤ (g.1 2 i).toInt ∧ (g.1 2 i).toInt ≤ 1001 := H9.2.2.2.2.2.1
theorem IA.lv {g : MS} {n c : Nat} (H9 : IA g n c) : LvOk g n (mClk g 6).toInt := H9.2.2.2.2.2.2
/-- messages, loans, answers -/
def IB (g : MS) (n : Nat) (f : Nat → Nat) : Prop := (MsgOk g) ∧ (∀ q, q < mqN g → MV g n f q) ∧ (∀ h, h < n → LV g f h) ∧ (G3 g n f) ∧ (∀ gt kk, gt < 6 → kk < 8 → AV g n f gt kk)
theorem IB.mo {g : MS} {n : Nat} {f : Nat → Nat} (H9 : IB g n f) : MsgOk g := H9.1
theorem IB.ms {g : MS} {n : Nat} {f : Nat → Nat} (H9 : IB g n f) : ∀ q, q < mqN g → MV g n f q := H9.2.1
theorem IB.lo {g : MS} {n : Nat} {f : Nat → Nat} (H9 : IB g n f) : ∀ h, h < n → LV g f h := H9.2.2.1
theorem IB.g3 {g : MS} {n : Nat} {f : Nat → Nat} (H9 : IB g n f) : G3 g n f := H9.2.2.2.1
theorem IB.an {g : MS} {n : Nat} {f : Nat → Nat} (H9 : IB g n f) : ∀ gt kk, gt < 6 → kk < 8 → AV g n f gt kk := H9.2.2.2.2
/-- desks -/
def IC (g : MS) (n : Nat) (f : Nat → Nat) (d : Nat) : Prop := (∀ h, ¬ g.1 27 h = 0 → HV g n f h) ∧ (∀ i, i < 48 → (0 ≤ (g.1 23 i).toInt ∧ (g.1 23 i).toInt ≤ d) ∧ 0 ≤ (g.1 25 i).toInt ∧ (g.1 25 i).toInt ≤ 3000000)
theorem IC.ho {g : MS} {n : Nat} {f : Nat → Nat} {d : Nat} (H9 : IC g n f d) : ∀ h, ¬ g.1 27 h = 0 → HV g n f h := H9.1
theorem IC.dk {g : MS} {n : Nat} {f : Nat → Nat} {d : Nat} (H9 : IC g n f d) : ∀ i, i < 48 → (0 ≤ (g.1 23 i).toInt ∧ (g.1 23 i).toInt ≤ d) ∧ 0 ≤ (g.1 25 i).toInt ∧ (g.1 25 i).toInt ≤ 3000000 := H9.2
/-- g2 is g with more messages -/
def MExt (g g2 : MS) : Prop := (∀ j, j ≠ 32 → j ≠ 33 → g2.1 j = g.1 j) ∧ (∀ i, i < 8 * mqN g → g2.1 32 i = g.1 32 i) ∧ mqN g ≤ mqN g2 ∧ MsgOk g2 ∧ g2.2.1 = g.2.1 ∧ ∀ x, x ≠ 1131 → g2.2.2 x = g.2.2 x
theorem Lo.ext {g g2 : MS} {f : Nat → Nat} {h gt kk : Nat} {b c : Int32} (H : Lo g f h gt kk b c) (E : MExt g g2) (hf : f h < mqN g) : Lo g2 f h gt kk b c := by
  obtain ⟨h1, h2, h3, h4⟩ := H
  refine ⟨by rw [E.1 8 (by decide) (by decide)]; exact h1, by rw [E.2.1 _ (by omega)]; exact h2, by rw [E.2.1 _ (by omega)]; exact h3, by rw [E.2.1 _ (by omega)]; exact h4⟩
theorem MW.ext {g g2 : MS} {n : Nat} {f : Nat → Nat} {x0 x1 x2 x3 x4 x5 x6 x7 : Int32} (H : MW g n f x0 x1 x2 x3 x4 x5 x6 x7) (E : MExt g g2) (hf : ∀ h, h < n → f h < mqN g) : MW g2 n f x0 x1 x2 x3 x4 x5 x6 x7 := by
  obtain ⟨gt, kk, a, b, c, d, z⟩ := H
  refine ⟨gt, kk, a, b, c, d, ?_⟩
  rcases z with z | ⟨z1, z2, z3, z4⟩ | ⟨z1, z2, h, z3, z4, z5⟩
  · exact Or.inl z
  · refine Or.inr (Or.inl ⟨z1, z2, z3, fun u => ?_⟩)
    obtain ⟨h, h1, h2, h3⟩ := z4 u
    exact ⟨h, h1, h2, h3.ext E (hf h h1)⟩
  · exact Or.inr (Or.inr ⟨z1, z2, h, z3, z4, by rw [E.1 8 (by decide) (by decide)]; exact z5⟩)
theorem IB.ext {g g2 : MS} {n : Nat} {f : Nat → Nat} (H : IB g n f) (E : MExt g g2) (hq : ∀ q, mqN g ≤ q → q < mqN g2 → MV g2 n f q) : IB g2 n f := by
  have hf : ∀ h, h < n → f h < mqN g := fun h hh => (H.lo h hh).1
  obtain ⟨e1, e2, e3, e4, e5, e6⟩ := id E
  refine ⟨e4, fun q hq2 => ?_, fun h hh => ?_, fun h h2 a b u1 u2 u3 => ?_, fun gt kk hg hk => ?_⟩
  · by_cases z : q < mqN g
    · have := (H.ms q z).ext E hf
      unfold MV
      rw [e2 _ (by omega), e2 _ (by omega), e2 _ (by omega), e2 _ (by omega), e2 _ (by omega), e2 _ (by omega), e2 _ (by omega), e2 _ (by omega)]
      exact this
    · exact hq q (by omega) hq2
  · obtain ⟨a, gt, kk, b1, b2, b3, b4, b5, b6, b7⟩ := H.lo h hh
    refine ⟨by omega, gt, kk, b1, b2, ?_, ?_, ?_, ?_, ?_⟩
    · rw [e1 8 (by decide) (by decide)]; exact b3
    · rw [e2 _ (by omega)]; exact b4
    · rw [e2 _ (by omega)]; exact b5
    · rw [e2 _ (by omega), e1 12 (by decide) (by decide)]; exact b6
    · rw [e2 _ (by omega), e2 _ (by omega), e1 12 (by decide) (by decide), e1 13 (by decide) (by decide)]; exact b7
  · have f1 := hf h (by omega)
    have f2 := hf h2 b
    rw [e2 _ (by omega), e2 _ (by omega)] at u1 u3 ⊢
    rw [e1 8 (by decide) (by decide)] at u2
    exact H.g3 h h2 a b u1 u2 u3
  · unfold AV
    rw [e1 12 (by decide) (by decide), e1 13 (by decide) (by decide), e1 14 (by decide) (by decide), e1 15 (by decide) (by decide), e1 16 (by decide) (by decide)]
    rcases H.an gt kk hg hk with z | ⟨z1, z2, z3, z4⟩
    · exact Or.inl z
    · refine Or.inr ⟨z1, z2, z3, fun u => ?_⟩
      obtain ⟨h, h1, h2, h3⟩ := z4 u
      exact ⟨h, h1, h2, h3.ext E (hf h h1)⟩
theorem IC.ext {g g2 : MS} {n d : Nat} {f : Nat → Nat} (H : IC g n f d) (E : MExt g g2) (hf : ∀ h, h < n → f h < mqN g) : IC g2 n f d := by
  obtain ⟨e1, e2, e3, e4, e5, e6⟩ := id E
  refine ⟨fun h hh => ?_, fun i hi => by rw [e1 23 (by decide) (by decide), e1 25 (by decide) (by decide)]; exact H.dk i hi⟩
  rw [e1 27 (by decide) (by decide)] at hh
  obtain ⟨a, gt, kk, b1, b2, b3, ⟨c, c1, c2, c3⟩, b5, b6⟩ := H.ho h hh
  refine ⟨a, gt, kk, b1, b2, by rw [e1 27 (by decide) (by decide)]; exact b3, ⟨c, ?_, ?_, ?_⟩, by rw [e1 28 (by decide) (by decide)]; exact b5, ?_⟩
  · rw [e1 20 (by decide) (by decide)]; exact c1.ext E (hf h a)
  · rw [e1 23 (by decide) (by decide)]; exact c2
  · rw [e1 23 (by decide) (by decide), e1 24 (by decide) (by decide)]; exact c3
  · unfold HT; rw [e1 29 (by decide) (by decide), e1 30 (by decide) (by decide)]; exact b6
theorem mClk_eq {g g2 : MS} {k : Nat} (h : g2.2.1 1 k = g.2.1 1 k) : mClk g2 k = mClk g k := by unfold mClk; rw [h]
theorem IA.same {g g2 : MS} {n c : Nat} (H : IA g n c) (h : ∀ j, j ∈ [2, 3, 4, 8, 9, 10, 19] → g2.1 j = g.1 j) (h2 : g2.2.1 = g.2.1) (h3 : g2.2.2 1107 = g.2.2 1107) (h4 : g2.2.2 1111 = g.2.2 1111) : IA g2 n c := by
  refine ⟨H.n3, h3.trans H.nl, H.bi.same (h 3 (by decide)) (h 4 (by decide)) (by rw [h2]) (h 9 (by decide)) (h 10 (by decide)), ?_, by rw [h4]; exact H.ln, fun i hi => by rw [h2, h 2 (by decide)]; exact H.ck i hi, ?_⟩
  · unfold WOk; rw [h 19 (by decide)]; exact H.wo
  · refine ⟨fun k hk => ?_, fun x hx z => ?_⟩
    · rw [h2, h 4 (by decide), smI_eq (g := g) (h 8 (by decide)) (fun x _ _ => by rw [h 9 (by decide)])]; exact H.lv.1 k hk
    · rw [h 9 (by decide)] at z; rw [mClk_eq (g := g) (by rw [h2]), h 10 (by decide)]; exact H.lv.2 x hx z
theorem IA.ext {g g2 : MS} {n c : Nat} (H : IA g n c) (E : MExt g g2) : IA g2 n c :=
  H.same (fun j hj => E.1 j (by intro e; subst e; revert hj; decide) (by intro e; subst e; revert hj; decide)) E.2.2.2.2.1 (E.2.2.2.2.2 _ (by decide)) (E.2.2.2.2.2 _ (by decide))
theorem mPost_lo (g : MS) (q : Nat) (x0 x1 x2 x3 x4 x5 x6 x7 : Int32) {i : Nat} (h : i < 8 * q) : (mPost g q x0 x1 x2 x3 x4 x5 x6 x7).1 32 i = g.1 32 i := by
  show (iI (iI (iI (iI (iI (iI (iI (iI g 32 (8 * q) x0) 32 (8 * q + 1) x1) 32 (8 * q + 2) x2) 32 (8 * q + 3) x3) 32 (8 * q + 4) x4) 32 (8 * q + 5) x5) 32 (8 * q + 6) x6) 32 (8 * q + 7) x7).1 32 i = _
  rw [iI_o (by omega), iI_o (by omega), iI_o (by omega), iI_o (by omega), iI_o (by omega), iI_o (by omega), iI_o (by omega), iI_o (by omega)]
theorem mPost_at (g : MS) (q : Nat) (x0 x1 x2 x3 x4 x5 x6 x7 : Int32) : (mPost g q x0 x1 x2 x3 x4 x5 x6 x7).1 32 (8 * q) = x0 ∧ (mPost g q x0 x1 x2 x3 x4 x5 x6 x7).1 32 (8 * q + 1) = x1 ∧ (mPost g q x0 x1 x2 x3 x4 x5 x6 x7).1 32 (8 * q + 2) = x2 ∧ (mPost g q x0 x1 x2 x3 x4 x5 x6 x7).1 32 (8 * q + 3) = x3 ∧ (mPost g q x0 x1 x2 x3 x4 x5 x6 x7).1 32 (8 * q + 4) = x4 ∧ (mPost g q x0 x1 x2 x3 x4 x5 x6 x7).1 32 (8 * q + 5) = x5 ∧ (mPost g q x0 x1 x2 x3 x4 x5 x6 x7).1 32 (8 * q + 6) = x6 ∧ (mPost g q x0 x1 x2 x3 x4 x5 x6 x7).1 32 (8 * q + 7) = x7 := by
  have e : (mPost g q x0 x1 x2 x3 x4 x5 x6 x7).1 32 = (iI (iI (iI (iI (iI (iI (iI (iI g 32 (8 * q) x0) 32 (8 * q + 1) x1) 32 (8 * q + 2) x2) 32 (8 * q + 3) x3) 32 (8 * q + 4) x4) 32 (8 * q + 5) x5) 32 (8 * q + 6) x6) 32 (8 * q + 7) x7).1 32 := rfl
  rw [e]
  refine ⟨?_, ?_, ?_, ?_, ?_, ?_, ?_, ?_⟩ <;> simp [iI_32]
/-- one message more -/
theorem post_ext {g : MS} (hm : MsgOk g) (x0 x1 x2 x3 x4 x5 x6 x7 : Int32) : MExt g (mPostIf g x0 x1 x2 x3 x4 x5 x6 x7) ∧ ∀ q, mqN g ≤ q → q < mqN (mPostIf g x0 x1 x2 x3 x4 x5 x6 x7) → q = mqN g ∧ mPostIf g x0 x1 x2 x3 x4 x5 x6 x7 = mPost g (mqN g) x0 x1 x2 x3 x4 x5 x6 x7 := by
  unfold mPostIf
  by_cases z : mqN g = 300
  · rw [if_pos z]; exact ⟨⟨fun _ _ _ => rfl, fun _ _ => rfl, Nat.le_refl _, hm, rfl, fun _ _ => rfl⟩, fun q a b => by omega⟩
  · rw [if_neg z]
    have hN := hm.2
    have e : (mPost g (mqN g) x0 x1 x2 x3 x4 x5 x6 x7).2.2 1131 = nI (mqN g + 1) := iF_s
    have eN : mqN (mPost g (mqN g) x0 x1 x2 x3 x4 x5 x6 x7) = mqN g + 1 := by
      show ((mPost g (mqN g) x0 x1 x2 x3 x4 x5 x6 x7).2.2 1131).toNatClampNeg = _
      rw [e]; exact nI_clamp (by omega)
    refine ⟨⟨fun j h1 h2 => ?_, fun i hi => mPost_lo _ _ _ _ _ _ _ _ _ _ hi, by omega, ⟨by rw [e, eN], by omega⟩, rfl, fun x hx => va_up_ne _ _ hx⟩, fun q a b => ⟨by omega, rfl⟩⟩
    show (iI (iI (iI (iI (iI (iI (iI (iI (iI g 32 (8 * mqN g) x0) 32 (8 * mqN g + 1) x1) 32 (8 * mqN g + 2) x2) 32 (8 * mqN g + 3) x3) 32 (8 * mqN g + 4) x4) 32 (8 * mqN g + 5) x5) 32 (8 * mqN g + 6) x6) 32 (8 * mqN g + 7) x7) 33 (mqN g) 1).1 j = _
    rw [iI_j h2, iI_j h1, iI_j h1, iI_j h1, iI_j h1, iI_j h1, iI_j h1, iI_j h1, iI_j h1]
theorem IB.post {g : MS} {n : Nat} {f : Nat → Nat} (H : IB g n f) {x0 x1 x2 x3 x4 x5 x6 x7 : Int32} (hw : MW g n f x0 x1 x2 x3 x4 x5 x6 x7) : IB (mPostIf g x0 x1 x2 x3 x4 x5 x6 x7) n f := by
  obtain ⟨E, z⟩ := post_ext H.mo x0 x1 x2 x3 x4 x5 x6 x7
  refine H.ext E (fun q a b => ?_)
  obtain ⟨e1, e2⟩ := z q a b
  have := hw.ext E (fun h hh => (H.lo h hh).1)
  unfold MV
  rw [e2] at this ⊢
  rw [e1]
  obtain ⟨p0, p1, p2, p3, p4, p5, p6, p7⟩ := mPost_at g (mqN g) x0 x1 x2 x3 x4 x5 x6 x7
  rw [p0, p1, p2, p3, p4, p5, p6, p7]
  exact this
theorem mSend_post (g : MS) (x0 x1 x2 x3 x4 x5 x6 : Int32) : (mSend g x0 x1 x2 x3 x4 x5 x6).1 = mPostIf g x0 x1 x2 x3 x4 x5 x6 0 := by
  unfold mSend mPostIf
  split <;> rfl
/-- all together: c calls so far, d asks -/
def GInv (g : MS) (n : Nat) (f : Nat → Nat) (c d : Nat) : Prop := (IA g n c) ∧ (IB g n f) ∧ (IC g n f d)
theorem GInv.a {g : MS} {n : Nat} {f : Nat → Nat} {c d : Nat} (H9 : GInv g n f c d) : IA g n c := H9.1
theorem GInv.b {g : MS} {n : Nat} {f : Nat → Nat} {c d : Nat} (H9 : GInv g n f c d) : IB g n f := H9.2.1
theorem GInv.c {g : MS} {n : Nat} {f : Nat → Nat} {c d : Nat} (H9 : GInv g n f c d) : IC g n f d := H9.2.2
theorem GInv.post {g : MS} {n c d : Nat} {f : Nat → Nat} (H : GInv g n f c d) {x0 x1 x2 x3 x4 x5 x6 x7 : Int32} (hw : MW g n f x0 x1 x2 x3 x4 x5 x6 x7) : GInv (mPostIf g x0 x1 x2 x3 x4 x5 x6 x7) n f c d :=
  ⟨H.a.ext (post_ext H.b.mo _ _ _ _ _ _ _ _).1, H.b.post hw, H.c.ext (post_ext H.b.mo _ _ _ _ _ _ _ _).1 (fun h hh => (H.b.lo h hh).1)⟩
theorem LvOk.same {g g2 : MS} {n : Nat} {tm : Int} (H : LvOk g n tm) (h4 : g2.1 4 = g.1 4) (h8 : g2.1 8 = g.1 8) (h9 : g2.1 9 = g.1 9) (h10 : g2.1 10 = g.1 10) (h5 : g2.2.1 5 = g.2.1 5) : LvOk g2 n tm := by
  refine ⟨fun k hk => ?_, fun h hh z => ?_⟩
  · rw [smI_eq (g := g) h8 (fun _ _ _ => by rw [h9]), h4, h5]; exact H.1 k hk
  · rw [h9] at z; rw [h10]; exact H.2 h hh z
theorem IA.up {g : MS} {n c c2 : Nat} (H : IA g n c) (h : c ≤ c2) : IA g n c2 := ⟨H.n3, H.nl, H.bi, H.wo, H.ln, fun i hi => ⟨⟨(H.ck i hi).1.1, by have := (H.ck i hi).1.2; omega⟩, (H.ck i hi).2⟩, H.lv⟩
theorem IC.up {g : MS} {n d d2 : Nat} {f : Nat → Nat} (H : IC g n f d) (h : d ≤ d2) : IC g n f d2 := ⟨H.ho, fun i hi => ⟨⟨(H.dk i hi).1.1, by have := (H.dk i hi).1.2; omega⟩, (H.dk i hi).2⟩⟩
theorem GInv.up {g : MS} {n c d c2 d2 : Nat} {f : Nat → Nat} (H : GInv g n f c d) (h1 : c ≤ c2) (h2 : d ≤ d2) : GInv g n f c2 d2 := ⟨H.a.up h1, H.b, H.c.up h2⟩
theorem IB.same {g g2 : MS} {n : Nat} {f : Nat → Nat} (H : IB g n f) (h : ∀ j, j ∈ [8, 12, 13, 14, 15, 16, 32] → g2.1 j = g.1 j) (h2 : g2.2.2 1131 = g.2.2 1131) : IB g2 n f := by
  have eN : mqN g2 = mqN g := by unfold mqN; rw [h2]
  have h8 := h 8 (by decide)
  have h12 := h 12 (by decide)
  have h13 := h 13 (by decide)
  have h14 := h 14 (by decide)
  have h15 := h 15 (by decide)
  have h16 := h 16 (by decide)
  have h32 := h 32 (by decide)
  refine ⟨MsgOk_of h2 H.mo, fun q hq => ?_, fun x hx => ?_, ?_, fun gt kk hg hk => ?_⟩
  · have := H.ms q (by omega)
    unfold MV MW Lo at *
    rw [h32, h8]; exact this
  · have := H.lo x hx
    unfold LV at *
    rw [eN, h32, h8, h12, h13]; exact this
  · have := H.g3
    unfold G3 at *
    rw [h32, h8]; exact this
  · have := H.an gt kk hg hk
    unfold AV Lo at *
    rw [h32, h8, h12, h13, h14, h15, h16]; exact this
theorem IC.same {g g2 : MS} {n d : Nat} {f : Nat → Nat} (H : IC g n f d) (h : ∀ j, j ∈ [8, 20, 23, 24, 25, 27, 28, 29, 30, 32] → g2.1 j = g.1 j) : IC g2 n f d := by
  have h8 := h 8 (by decide)
  have h20 := h 20 (by decide)
  have h23 := h 23 (by decide)
  have h24 := h 24 (by decide)
  have h25 := h 25 (by decide)
  have h27 := h 27 (by decide)
  have h28 := h 28 (by decide)
  have h29 := h 29 (by decide)
  have h30 := h 30 (by decide)
  have h32 := h 32 (by decide)
  refine ⟨fun x hx => ?_, fun i hi => by rw [h23, h25]; exact H.dk i hi⟩
  rw [h27] at hx
  have := H.ho x hx
  unfold HV Lo HT at *
  rw [h8, h20, h23, h24, h27, h28, h29, h30, h32]; exact this
/-- what no promise reads for the state has changed -/
theorem GInv.same {g g2 : MS} {n c d : Nat} {f : Nat → Nat} (H : GInv g n f c d) (h : ∀ j, j ∈ [2, 3, 4, 8, 9, 10, 12, 13, 14, 15, 16, 19, 20, 23, 24, 25, 27, 28, 29, 30, 32] → g2.1 j = g.1 j) (h2 : g2.2.1 = g.2.1) (h3 : ∀ x, x ∈ [1107, 1111, 1131] → g2.2.2 x = g.2.2 x) : GInv g2 n f c d :=
  ⟨H.a.same (fun j hj => h j (by revert hj; simp; omega)) h2 (h3 _ (by decide)) (h3 _ (by decide)), H.b.same (fun j hj => h j (by revert hj; simp; omega)) (h3 _ (by decide)), H.c.same (fun j hj => h j (by revert hj; simp; omega))⟩
theorem GInv.f0 {g : MS} {n c d : Nat} {f : Nat → Nat} {v : Int32} (H : GInv g n f c d) : GInv (iF g 1100 v) n f c d :=
  H.same (fun _ _ => rfl) rfl (fun x hx => va_up_ne _ _ (by intro e; subst e; revert hx; decide))
theorem GInv.drop {g : MS} {n c d i : Nat} {f : Nat → Nat} {v : Int32} (H : GInv g n f c d) : GInv (iI g 33 i v) n f c d :=
  H.same (fun j hj => iI_j (by intro e; subst e; revert hj; decide)) rfl (fun _ _ => rfl)
/-! key, length, weight, speed -/
theorem GInv.key {g : MS} {n c d k : Nat} {f : Nat → Nat} {p1 p2 : Int32} (H : GInv g n f c d) (hk : k < 8) (h1 : 0 ≤ p1.toInt ∧ p1.toInt ≤ 100000) (h2 : 0 ≤ p2.toInt ∧ p2.toInt ≤ 1000000) : GInv (mKeyOk g n k p1 p2) n f c d := by
  have e : mKeyOk g n k p1 p2 = kFill (iI (iI g 3 k p1) 4 k p2) n k 0 := by
    unfold mKeyOk kFill
    rw [Int64.add_zero]; rfl
  have B0 : BInv (iI (iI g 3 k p1) 4 k p2) n := by
    refine ⟨fun i hi => ⟨?_, ?_, (H.a.bi.1 i hi).2.2⟩, H.a.bi.2⟩
    · rw [iI_j (show (3 : Nat) ≠ 4 by decide)]
      by_cases e : i = k
      · subst e; rw [iI_s]; exact h1
      · rw [iI_o e]; exact (H.a.bi.1 i hi).1
    · by_cases e : i = k
      · subst e; rw [iI_s]; exact h2
      · rw [iI_o e]; exact (H.a.bi.1 i hi).2.1
  have B1 := B0.fill H.a.n3 hk (x := 0)
  rw [← e] at B1
  refine ⟨⟨H.a.n3, H.a.nl, B1, H.a.wo, H.a.ln, H.a.ck, ⟨fun i hi => ?_, H.a.lv.2⟩⟩, H.b.same (fun j hj => ?_) rfl, H.c.same (fun j hj => ?_)⟩
  · have es : smI (mKeyOk g n k p1 p2) i n = smI g i n := smI_eq rfl (fun _ _ _ => rfl)
    rw [es]
    by_cases z : i = k
    · subst z
      have e1 : (mKeyOk g n i p1 p2).2.1 5 i = fillV (mMost (iI (iI g 3 i p1) 4 i p2) n i) (g.2.1 5 i) := iL_s
      have e2 : smI (iI (iI g 3 i p1) 4 i p2) i n = smI g i n := smI_eq rfl (fun _ _ _ => rfl)
      rw [e1, fillV_I, most_I B0 H.a.n3 hi, mLt_sm B0 H.a.n3, e2]
      show _ ≤ max 0 (1000 * (((iI (iI g 3 i p1) 4 i p2).1 4 i).toInt - smI g i n))
      omega
    · have e1 : (mKeyOk g n k p1 p2).2.1 5 i = g.2.1 5 i := iL_o z
      have e2 : (mKeyOk g n k p1 p2).1 4 i = g.1 4 i := (iI_o (g := iI g 3 k p1) (j := 4) z)
      rw [e1, e2]; exact H.a.lv.1 i hi
  · show (iI (iI g 3 k p1) 4 k p2).1 j = g.1 j
    rw [iI_j (by intro e; subst e; revert hj; decide), iI_j (by intro e; subst e; revert hj; decide)]
  · show (iI (iI g 3 k p1) 4 k p2).1 j = g.1 j
    rw [iI_j (by intro e; subst e; revert hj; decide), iI_j (by intro e; subst e; revert hj; decide)]
theorem GInv.len {g : MS} {n c d : Nat} {f : Nat → Nat} {v : Int32} (H : GInv g n f c d) (h : 10 ≤ v.toInt ∧ v.toInt ≤ 9000) : GInv (iF g 1111 v) n f c d :=
  ⟨⟨H.a.n3, H.a.nl, H.a.bi, H.a.wo, by rw [show (iF g 1111 v).2.2 1111 = v from iF_s]; exact h, H.a.ck, H.a.lv.same rfl rfl rfl rfl rfl⟩, H.b.same (fun _ _ => rfl) rfl, H.c.same (fun _ _ => rfl)⟩
theorem GInv.weight {g : MS} {n c d i : Nat} {f : Nat → Nat} {v : Int32} (H : GInv g n f c d) (h : 1 ≤ v.toInt ∧ v.toInt ≤ 100) : GInv (iI g 19 i v) n f c d := by
  refine ⟨⟨H.a.n3, H.a.nl, H.a.bi, fun j hj => ?_, H.a.ln, H.a.ck, H.a.lv.same rfl rfl rfl rfl rfl⟩, H.b.same (fun j hj => iI_j (by intro e; subst e; revert hj; decide)) rfl, H.c.same (fun j hj => iI_j (by intro e; subst e; revert hj; decide))⟩
  by_cases e : j = i
  · subst e; rw [iI_s]; exact h
  · rw [iI_o e]; exact H.a.wo j hj
theorem GInv.speed {g : MS} {n c d i : Nat} {f : Nat → Nat} {v : Int32} (H : GInv g n f c d) (h : 999 ≤ v.toInt ∧ v.toInt ≤ 1001) : GInv (iI g 2 i v) n f c d := by
  refine ⟨⟨H.a.n3, H.a.nl, H.a.bi, H.a.wo, H.a.ln, fun j hj => ⟨(H.a.ck j hj).1, ?_⟩, H.a.lv.same rfl rfl rfl rfl rfl⟩, H.b.same (fun j hj => iI_j (by intro e; subst e; revert hj; decide)) rfl, H.c.same (fun j hj => iI_j (by intro e; subst e; revert hj; decide))⟩
  by_cases e : j = i
  · subst e; rw [iI_s]; exact h
  · rw [iI_o e]; exact (H.a.ck j hj).2
/-! holds go -/
theorem IC.z27 {g : MS} {n d x : Nat} {f : Nat → Nat} (H : IC g n f d) : IC (iI g 27 x 0) n f d := by
  refine ⟨fun h hh => ?_, H.dk⟩
  by_cases e : h = x
  · subst e; exact absurd iI_s hh
  · rw [iI_o e] at hh
    obtain ⟨a, gt, kk, b1, b2, b3, b4, b5, b6⟩ := H.ho h hh
    exact ⟨a, gt, kk, b1, b2, (iI_o e).trans b3, b4, b5, b6⟩
theorem GInv.z27 {g : MS} {n c d x : Nat} {f : Nat → Nat} (H : GInv g n f c d) : GInv (iI g 27 x 0) n f c d :=
  ⟨H.a.same (fun j hj => iI_j (by intro e; subst e; revert hj; decide)) rfl rfl rfl, H.b.same (fun j hj => iI_j (by intro e; subst e; revert hj; decide)) rfl, H.c.z27⟩
theorem IC.hold {g : MS} {n d gt kk h : Nat} {f : Nat → Nat} (H : IC g n f d) (hg : gt < 6) (hh : mHold g gt kk h) : HV g n f h := H.ho h (by rw [hh.1]; exact nI_ne0 (by omega) (by omega))
theorem IC.hok {g : MS} {n d : Nat} {f : Nat → Nat} (H : IC g n f d) {gt : Nat} (kk : Nat) (hg : gt < 6) : HOk g gt kk n := fun h _ hh => by
  obtain ⟨-, gt2, kk2, -, -, -, -, b, -⟩ := H.hold hg hh
  exact b
theorem IC.ht {g : MS} {n d : Nat} {f : Nat → Nat} (H : IC g n f d) {gt : Nat} (kk : Nat) (hg : gt < 6) : ∀ h, h < n → mHold g gt kk h → HT g h := fun h _ hh => by
  obtain ⟨-, gt2, kk2, -, -, -, -, -, b⟩ := H.hold hg hh
  exact b
theorem IC.tk {g : MS} {n d b : Nat} {f : Nat → Nat} {x : Int32} (H : IC g n f d) (h0 : ¬ g.1 27 b = 0) (h1 : 1 ≤ x.toInt) (h2 : x.toInt ≤ (g.1 28 b).toInt) : IC (mTk2 g b x) n f d := by
  obtain ⟨o1, o2⟩ := mTk2_o g b x
  refine ⟨fun h hh => ?_, fun i hi => by rw [o2 23 (by decide) (by decide), o2 25 (by decide) (by decide)]; exact H.dk i hi⟩
  have h27 := mTk2_27 g b x h
  by_cases z : h = b ∧ g.1 28 b - x = 0
  · rw [if_pos z] at h27; exact absurd h27 hh
  · rw [if_neg z] at h27
    rw [h27] at hh
    obtain ⟨a, gt, kk, b1, b2, b3, ⟨c, c1, c2, c3⟩, b5, b6⟩ := H.ho h hh
    refine ⟨a, gt, kk, b1, b2, h27.trans b3, ⟨c, ?_, ?_, ?_⟩, ?_, ?_⟩
    · unfold Lo at *; rw [o2 8 (by decide) (by decide), o2 20 (by decide) (by decide), o2 32 (by decide) (by decide)]; exact c1
    · rw [o2 23 (by decide) (by decide)]; exact c2
    · rw [o2 23 (by decide) (by decide), o2 24 (by decide) (by decide)]; exact c3
    · rw [mTk2_28]
      by_cases e : h = b
      · subst e
        rw [if_pos rfl]
        have d2 := i32_sub (a := g.1 28 h) (b := x) (by omega) (by omega)
        have : (g.1 28 h - x).toInt ≠ 0 := fun q => z ⟨rfl, Int32.toInt_inj.mp (by rw [q]; rfl)⟩
        omega
      · rw [if_neg e]; exact b5
    · unfold HT at *; rw [o2 29 (by decide) (by decide), o2 30 (by decide) (by decide)]; exact b6
theorem tkD_inv {gt kk n c d : Nat} {f : Nat → Nat} (hg : gt < 6) : ∀ fu g (left : Int32), GInv g n f c d → left.toInt ≤ liveI g gt kk n → 0 ≤ left.toInt → left.toInt ≤ 10000 → GInv (mTkD gt kk n fu g left) n f c d := by
  intro fu
  induction fu with
  | zero => intro g left H _ _ _; exact H
  | succ fu ih =>
    intro g left H h1 h2 h3
    rw [mTkD]
    by_cases z : 0 < left
    · rw [if_pos z]
      have z2 : 1 ≤ left.toInt := by rw [Int32.lt_iff_toInt_lt] at z; have : (0 : Int32).toInt = 0 := rfl; omega
      obtain ⟨b, b1, b2, b3, b4⟩ := best_ok (g := g) (gt := gt) (kk := kk) H.a.n3 (show 0 < liveI g gt kk n by omega)
      obtain ⟨k1, k2, k3, k4⟩ := mTkS_ok hg H.a.n3 (H.c.hok kk hg) h1 z2 h3
      refine ih _ _ ?_ k2 k4 (by omega)
      have o := mTk2_o g b (mTk1 g b left)
      have y := H.c.hok kk hg b b1 b3
      have s := mTk1_I (left := left) y.1 y.2 z2 h3
      unfold mTkS
      rw [b2, nI_clamp (by have := H.a.n3; omega)]
      exact ⟨H.a.same (fun j hj => o.2 j (by intro e; subst e; revert hj; decide) (by intro e; subst e; revert hj; decide)) (by rw [o.1]) (by rw [o.1]) (by rw [o.1]), H.b.same (fun j hj => o.2 j (by intro e; subst e; revert hj; decide) (by intro e; subst e; revert hj; decide)) (by rw [o.1]), H.c.tk (by rw [b3.1]; exact nI_ne0 (by omega) (by omega)) s.1 s.2.2⟩
    · rw [if_neg z]; exact H
theorem GInv.take {g : MS} {n c d gt kk : Nat} {f : Nat → Nat} {x : Int32} (H : GInv g n f c d) (hg : gt < 6) (hx : 1 ≤ x.toInt ∧ x.toInt ≤ 10000) : GInv (mTkOk g n gt kk x).1 n f c d := by
  unfold mTkOk
  have H2 : GInv (iI g 22 (8 * gt + kk) (g.1 22 (8 * gt + kk) + x)) n f c d := H.same (fun j hj => iI_j (by intro e; subst e; revert hj; decide)) rfl (fun _ _ => rfl)
  by_cases z : mLiveSum (iI g 22 (8 * gt + kk) (g.1 22 (8 * gt + kk) + x)) gt kk n < x
  · rw [if_pos z]; exact H2.same (fun j hj => iI_j (by intro e; subst e; revert hj; decide)) rfl (fun _ _ => rfl)
  · rw [if_neg z]
    rw [Int32.lt_iff_toInt_lt, (live_I (H2.c.hok kk hg) H.a.n3 n (Nat.le_refl _)).1] at z
    have H3 := tkD_inv (kk := kk) hg 10001 _ x H2 (by omega) (by omega) hx.2
    refine GInv.same (GInv.same H3 (g2 := iI (mTkD gt kk n 10001 (iI g 22 (8 * gt + kk) (g.1 22 (8 * gt + kk) + x)) x) 26 (8 * gt + kk) 0) (fun j hj => iI_j (by intro e; subst e; revert hj; decide)) rfl (fun _ _ => rfl)) (fun j hj => iI_j (by intro e; subst e; revert hj; decide)) rfl (fun _ _ => rfl)
/-! clocks -/
theorem clk_I {g : MS} {k : Nat} (h0 : 0 ≤ (g.2.1 1 k).toInt) (h1 : (g.2.1 1 k).toInt ≤ 2562560000) : (mClk g k).toInt = (g.2.1 1 k).toInt / 1000 := by
  have e1 : (1000 : Int64).toInt = 1000 := by decide
  have b : (g.2.1 1 k / 1000).toInt = (g.2.1 1 k).toInt / 1000 := by
    rw [Int64.toInt_div, e1, Int.tdiv_eq_ediv_of_nonneg h0]; exact Int.bmod_eq_of_le (by omega) (by omega)
  unfold mClk
  rw [Int64.toInt_toInt32, b]; exact Int.bmod_eq_of_le (by omega) (by omega)
theorem IA.ct {g : MS} {n c : Nat} (H : IA g n c) (hc : c ≤ 512) {k : Nat} (hk : k < 7) : CT g k := by
  have a := (H.ck k hk).1
  unfold CT
  rw [clk_I a.1 (by omega)]; omega
/-! work -/
theorem GInv.gb {g : MS} {n c d gt kk : Nat} {f : Nat → Nat} (H : GInv g n f c d) (hg : gt < 6) (hk : kk < 8) : ∀ m, GInv (mGB g gt kk m).1 n f c d ∧ (mGB g gt kk m).1.1 23 = g.1 23 ∧ (mGB g gt kk m).1.1 25 = g.1 25 := by
  intro m
  induction m with
  | zero => exact ⟨H, rfl, rfl⟩
  | succ h ih =>
    rw [mGB]
    obtain ⟨ih, i1, i2⟩ := ih
    by_cases z : mHold (mGB g gt kk h).1 gt kk h
    · rw [if_pos z]
      by_cases y : mLive (mGB g gt kk h).1 gt h
      · rw [if_pos y]
        by_cases w : mSpan (mGB g gt kk h).1 h ≤ 2 * mAge (mGB g gt kk h).1 gt h
        · rw [if_pos w]
          obtain ⟨a, gt2, kk2, b1, b2, b3, ⟨c9, c1, -, -⟩, b5, b6⟩ := ih.c.hold hg z
          refine ⟨?_, ?_, ?_⟩
          · show GInv (mSend (iI (mGB g gt kk h).1 27 h 0) 2 (nI gt) (nI kk) ((mGB g gt kk h).1.1 28 h) ((mGB g gt kk h).1.1 20 gt) (-1) (nI h)).1 n f c d
            rw [mSend_post]
            exact ih.z27.post ⟨gt, kk, hg, hk, rfl, rfl, Or.inr (Or.inr ⟨rfl, by omega, h, a, rfl, z.2⟩)⟩
          · rw [mSend_post, mPostIf_j _ _ _ _ _ _ _ _ _ (by decide) (by decide)]; exact i1
          · rw [mSend_post, mPostIf_j _ _ _ _ _ _ _ _ _ (by decide) (by decide)]; exact i2
        · rw [if_neg w]; exact ⟨ih, i1, i2⟩
      · rw [if_neg y]; exact ⟨ih.z27, i1, i2⟩
    · rw [if_neg z]; exact ⟨ih, i1, i2⟩
theorem HV.desk {g g2 : MS} {n h : Nat} {f : Nat → Nat} (H : HV g n f h) (h8 : g2.1 8 = g.1 8) (h20 : g2.1 20 = g.1 20) (h27 : g2.1 27 = g.1 27) (h28 : g2.1 28 = g.1 28) (h29 : g2.1 29 = g.1 29) (h30 : g2.1 30 = g.1 30) (h32 : g2.1 32 = g.1 32) (h23 : ∀ i, (g.1 23 i).toInt ≤ (g2.1 23 i).toInt) (h24 : ∀ i, i < 48 → ¬ g2.1 24 i = 0 → (¬ g.1 24 i = 0 ∧ (g2.1 23 i).toInt = (g.1 23 i).toInt) ∨ (g.1 23 i).toInt < (g2.1 23 i).toInt) : HV g2 n f h := by
  obtain ⟨a, gt, kk, b1, b2, b3, ⟨c, c1, c2, c3⟩, b5, b6⟩ := H
  refine ⟨a, gt, kk, b1, b2, by rw [h27]; exact b3, ⟨c, ?_, Int.le_trans c2 (h23 _), fun z => ?_⟩, by rw [h28]; exact b5, by unfold HT at *; rw [h29, h30]; exact b6⟩
  · unfold Lo at *; rw [h8, h20, h32]; exact c1
  · rcases h24 _ (by omega) z with ⟨y, e⟩ | y
    · have := c3 y; omega
    · omega
theorem GInv.workE {q : MS × Int32} {n c d gt k : Nat} {f : Nat → Nat} {z : Int32} (H : GInv q.1 n f c d) (hg : gt < 6) (hk : k < 8) (hc : c ≤ 512) (hd : d ≤ 100000) : GInv (mWorkE q z gt k n).1 n f c (d + 1) := by
  have H1 : GInv (mW1 q.1 gt k) n f c d := H.same (fun j hj => by
    show (iI (iI q.1 21 (8 * gt + k) _) 22 (8 * gt + k) 0).1 j = _
    rw [iI_j (by intro e; subst e; revert hj; decide), iI_j (by intro e; subst e; revert hj; decide)]) rfl (fun _ _ => rfl)
  unfold mWorkE
  generalize mW1 q.1 gt k = g at H1
  by_cases y : 0 < mMore g gt k n ∧ mMayAsk g gt k
  · rw [if_pos y]
    show GInv (mAskS g gt k (mMore g gt k n)).1 n f c (d + 1)
    unfold mAskS
    rw [mSend_post]
    have dk := H1.c.dk (8 * gt + k) (by omega)
    have e1 : (1 : Int32).toInt = 1 := rfl
    have es : (g.1 23 (8 * gt + k) + 1).toInt = (g.1 23 (8 * gt + k)).toInt + 1 := by rw [i32_add (by omega) (by omega), e1]
    have v23 : (mOpenUp g gt k).1 23 (8 * gt + k) = g.1 23 (8 * gt + k) + 1 := by simp [mOpenUp, iI, va_up]
    have o23 : ∀ i, i ≠ 8 * gt + k → (mOpenUp g gt k).1 23 i = g.1 23 i := fun i hi => by simp [mOpenUp, iI, va_up, hi]
    have o24 : ∀ i, i ≠ 8 * gt + k → (mOpenUp g gt k).1 24 i = g.1 24 i := fun i hi => by simp [mOpenUp, iI, va_up, hi]
    have v25 : (mOpenUp g gt k).1 25 (8 * gt + k) = mClk g gt := by simp [mOpenUp, iI, va_up]
    have o25 : ∀ i, i ≠ 8 * gt + k → (mOpenUp g gt k).1 25 i = g.1 25 i := fun i hi => by simp [mOpenUp, iI, va_up, hi]
    have oj : ∀ j, j ≠ 23 → j ≠ 24 → j ≠ 25 → (mOpenUp g gt k).1 j = g.1 j := fun j h1 h2 h3 => by
      show (iI (iI (iI g 23 (8 * gt + k) _) 24 (8 * gt + k) 1) 25 (8 * gt + k) _).1 j = _
      rw [iI_j h3, iI_j h2, iI_j h1]
    have H2 : GInv (mOpenUp g gt k) n f c (d + 1) := by
      refine ⟨H1.a.same (fun j hj => oj j (by intro e; subst e; revert hj; decide) (by intro e; subst e; revert hj; decide) (by intro e; subst e; revert hj; decide)) rfl rfl rfl, H1.b.same (fun j hj => oj j (by intro e; subst e; revert hj; decide) (by intro e; subst e; revert hj; decide) (by intro e; subst e; revert hj; decide)) rfl, fun h hh => ?_, fun i hi => ?_⟩
      · refine HV.desk (H1.c.ho h hh) rfl rfl rfl rfl rfl rfl rfl (fun i => ?_) (fun i hi w => ?_)
        · by_cases e : i = 8 * gt + k
          · rw [e, v23]; omega
          · rw [o23 i e]; exact Int.le_refl _
        · by_cases e : i = 8 * gt + k
          · rw [e, v23]; exact Or.inr (by omega)
          · rw [o24 i e] at w; rw [o23 i e]; exact Or.inl ⟨w, rfl⟩
      · by_cases e : i = 8 * gt + k
        · rw [e, v23, v25]
          have := H1.a.ct hc (show gt < 7 by omega)
          exact ⟨by omega, this⟩
        · rw [o23 i e, o25 i e]
          have := H1.c.dk i hi
          exact ⟨by omega, this.2⟩
    refine H2.post ⟨gt, k, hg, hk, rfl, rfl, Or.inl ⟨rfl, ?_, ?_⟩⟩
    · have := y.1
      rw [Int32.lt_iff_toInt_lt] at this
      exact this
    · rw [v23]; omega
  · rw [if_neg y]; exact H1.up (Nat.le_refl _) (by omega)
theorem GInv.workN {g : MS} {n c d gt : Nat} {f : Nat → Nat} (H : GInv g n f c d) (hg : gt < 6) (hc : c ≤ 512) (hd : d ≤ 99000) : ∀ m, m ≤ 8 → GInv (mWorkN g gt n m).1 n f c (d + m) := by
  intro m
  induction m with
  | zero => intro _; exact H
  | succ m ih =>
    intro hm
    rw [mWorkN]
    exact GInv.workE (d := d + m) ((ih (by omega)).gb hg (by omega) n).1 hg (by omega) hc (by omega)
/-! a grant arrives -/
theorem GInv.closeAsk {g : MS} {n c d i : Nat} {f : Nat → Nat} (H : GInv g n f c d) : GInv (iI g 24 i 0) n f c d := by
  refine ⟨H.a.same (fun j hj => iI_j (by intro e; subst e; revert hj; decide)) rfl rfl rfl, H.b.same (fun j hj => iI_j (by intro e; subst e; revert hj; decide)) rfl, fun h hh => ?_, H.c.dk⟩
  refine HV.desk (H.c.ho h hh) rfl rfl rfl rfl rfl rfl rfl (fun _ => Int.le_refl _) (fun x hx w => Or.inl ⟨?_, rfl⟩)
  by_cases e : x = i
  · subst e; exact absurd iI_s w
  · rw [iI_o e] at w; exact w
theorem GInv.arrH {g : MS} {n c d gt kk h : Nat} {f : Nat → Nat} {tok len : Int32} (H : GInv g n f c d) (hg : gt < 6) (hk : kk < 8) (hh : h < n) (hL : Lo g f h gt kk (g.1 20 gt) (g.1 23 (8 * gt + kk))) (ht : 1 ≤ tok.toInt ∧ tok.toInt ≤ 1000000) (hl : 0 ≤ len.toInt ∧ len.toInt ≤ 9000) : GInv (iI (iI (iI (iI (iI g 24 (8 * gt + kk) 0) 27 h (nI (gt + 1))) 28 h tok) 29 h (g.1 25 (8 * gt + kk))) 30 h len) n f c d := by
  have H1 := H.closeAsk (i := 8 * gt + kk)
  have d1 : ¬ ¬ (iI g 24 (8 * gt + kk) 0).1 24 (8 * gt + kk) = 0 := fun z => z iI_s
  have dk := H.c.dk (8 * gt + kk) (by omega)
  have e25 : (iI g 24 (8 * gt + kk) 0).1 25 (8 * gt + kk) = g.1 25 (8 * gt + kk) := rfl
  have L1 : Lo (iI g 24 (8 * gt + kk) 0) f h gt kk ((iI g 24 (8 * gt + kk) 0).1 20 gt) ((iI g 24 (8 * gt + kk) 0).1 23 (8 * gt + kk)) := hL
  rw [← e25] at dk ⊢
  generalize iI g 24 (8 * gt + kk) 0 = q at H1 d1 dk L1 ⊢
  have oj : ∀ j, j ≠ 27 → j ≠ 28 → j ≠ 29 → j ≠ 30 → (iI (iI (iI (iI q 27 h (nI (gt + 1))) 28 h tok) 29 h (q.1 25 (8 * gt + kk))) 30 h len).1 j = q.1 j := fun j h1 h2 h3 h4 => by
    rw [iI_j h4, iI_j h3, iI_j h2, iI_j h1]
  refine ⟨H1.a.same (fun j hj => oj j (by intro e; subst e; revert hj; decide) (by intro e; subst e; revert hj; decide) (by intro e; subst e; revert hj; decide) (by intro e; subst e; revert hj; decide)) rfl rfl rfl, H1.b.same (fun j hj => oj j (by intro e; subst e; revert hj; decide) (by intro e; subst e; revert hj; decide) (by intro e; subst e; revert hj; decide) (by intro e; subst e; revert hj; decide)) rfl, fun x hx => ?_, H1.c.dk⟩
  by_cases e : x = h
  · subst e
    have e27 : (iI (iI (iI (iI q 27 x (nI (gt + 1))) 28 x tok) 29 x (q.1 25 (8 * gt + kk))) 30 x len).1 27 x = nI (gt + 1) := by simp [iI, va_up]
    have e28 : (iI (iI (iI (iI q 27 x (nI (gt + 1))) 28 x tok) 29 x (q.1 25 (8 * gt + kk))) 30 x len).1 28 x = tok := by simp [iI, va_up]
    have e29 : (iI (iI (iI (iI q 27 x (nI (gt + 1))) 28 x tok) 29 x (q.1 25 (8 * gt + kk))) 30 x len).1 29 x = q.1 25 (8 * gt + kk) := by simp [iI, va_up]
    have e30 : (iI (iI (iI (iI q 27 x (nI (gt + 1))) 28 x tok) 29 x (q.1 25 (8 * gt + kk))) 30 x len).1 30 x = len := by simp [iI, va_up]
    refine ⟨hh, gt, kk, hg, hk, e27, ⟨q.1 23 (8 * gt + kk), L1, Int.le_refl _, fun z => absurd z d1⟩, by rw [e28]; exact ht, ?_⟩
    unfold HT
    rw [e29, e30]
    exact ⟨dk.2, hl⟩
  · have e27 : (iI (iI (iI (iI q 27 h (nI (gt + 1))) 28 h tok) 29 h (q.1 25 (8 * gt + kk))) 30 h len).1 27 x = q.1 27 x := by simp [iI, va_up, e]
    have e28 : (iI (iI (iI (iI q 27 h (nI (gt + 1))) 28 h tok) 29 h (q.1 25 (8 * gt + kk))) 30 h len).1 28 x = q.1 28 x := by simp [iI, va_up, e]
    have e29 : (iI (iI (iI (iI q 27 h (nI (gt + 1))) 28 h tok) 29 h (q.1 25 (8 * gt + kk))) 30 h len).1 29 x = q.1 29 x := by simp [iI, va_up, e]
    have e30 : (iI (iI (iI (iI q 27 h (nI (gt + 1))) 28 h tok) 29 h (q.1 25 (8 * gt + kk))) 30 h len).1 30 x = q.1 30 x := by simp [iI, va_up, e]
    rw [e27] at hx
    obtain ⟨a, g2, k2, b1, b2, b3, b4, b5, b6⟩ := H1.c.ho x hx
    refine ⟨a, g2, k2, b1, b2, e27.trans b3, b4, by rw [e28]; exact b5, ?_⟩
    unfold HT at *
    rw [e29, e30]; exact b6
/-! a return arrives -/
theorem IA.ret {g : MS} {n c k h : Nat} {x : Int64} (H : IA g n c) (hk : k < 8) (hh : h < n) (hkey : g.1 8 h = nI k) : IA (kFill (iI g 9 h 0) n k x) n c := by
  have B0 := H.bi.z9 (h := h)
  have B1 := B0.fill H.n3 hk (x := x)
  refine ⟨H.n3, H.nl, B1, H.wo, H.ln, H.ck, fun i hi => ?_, fun y hy z => ?_⟩
  · have es : smI (kFill (iI g 9 h 0) n k x) i n = smI (iI g 9 h 0) i n := smI_eq rfl (fun _ _ _ => rfl)
    rw [es]
    by_cases z : i = k
    · subst z
      have e1 : (kFill (iI g 9 h 0) n i x).2.1 5 i = fillV (mMost (iI g 9 h 0) n i) (g.2.1 5 i + x) := iL_s
      rw [e1, fillV_I, most_I B0 H.n3 hi, mLt_sm B0 H.n3]
      show _ ≤ max 0 (1000 * (((iI g 9 h 0).1 4 i).toInt - smI (iI g 9 h 0) i n))
      omega
    · have e1 : (kFill (iI g 9 h 0) n k x).2.1 5 i = g.2.1 5 i := iL_o z
      have e2 : smI (iI g 9 h 0) i n = smI g i n := by
        rw [smI_z9, if_neg (fun u => nI_ne (by omega) (by omega) z (u.2.symm.trans hkey))]
      rw [e1, e2]; exact H.lv.1 i hi
  · refine H.lv.2 y hy (fun u => z ?_)
    show (iI g 9 h 0).1 9 y = 0
    rw [iI9]
    split
    · rfl
    · exact u
theorem GInv.ret {g : MS} {n c d gt h kk : Nat} {f : Nat → Nat} {tok birth : Int32} (H : GInv g n f c d) (hk : kk < 8) (hh : h < n) (hkey : g.1 8 h = nI kk) : GInv (mRet g n gt tok birth h kk).1 n f c d := by
  rw [mRet_kBring]
  split
  · exact H
  · unfold kBring
    split
    · exact H
    · exact ⟨H.a.ret hk hh hkey, H.b.same (fun j hj => iI_j (g := g) (by intro e; subst e; revert hj; decide)) rfl, H.c.same (fun j hj => iI_j (g := g) (by intro e; subst e; revert hj; decide))⟩
/-! a gate starts anew -/
theorem mRs1_1 (g : MS) (gt : Nat) : ∀ m, (∀ j, j ≠ 27 → (mRs1 g gt m).1 j = g.1 j) ∧ (mRs1 g gt m).2 = g.2 ∧ ∀ h, (mRs1 g gt m).1 27 h = if h < m ∧ g.1 27 h = nI (gt + 1) then 0 else g.1 27 h := by
  intro m
  induction m with
  | zero => exact ⟨fun _ _ => rfl, rfl, fun h => (if_neg (fun z => absurd z.1 (Nat.not_lt_zero _))).symm⟩
  | succ m ih =>
    obtain ⟨a1, a2, a3⟩ := ih
    rw [mRs1]
    refine ⟨fun j hj => (iI_j hj).trans (a1 j hj), a2, fun h => ?_⟩
    by_cases e : h = m
    · subst e
      rw [iI_s, a3, if_neg (show ¬ (h < h ∧ g.1 27 h = nI (gt + 1)) from fun u => absurd u.1 (Nat.lt_irrefl _))]
      by_cases z : g.1 27 h = nI (gt + 1)
      · rw [if_pos z, if_pos ⟨Nat.lt_succ_self _, z⟩]
      · rw [if_neg z, if_neg (fun u => z u.2)]
    · rw [iI_o e, a3]
      by_cases z : h < m ∧ g.1 27 h = nI (gt + 1)
      · rw [if_pos z, if_pos ⟨by omega, z.2⟩]
      · rw [if_neg z, if_neg (fun u => z ⟨by omega, u.2⟩)]
theorem mRs2_1 (g : MS) (gt : Nat) : ∀ m, (∀ j, (j < 21 ∨ 26 < j) → (mRs2 g gt m).1 j = g.1 j) ∧ (mRs2 g gt m).2 = g.2 ∧ ∀ j i, 21 ≤ j → j ≤ 26 → (mRs2 g gt m).1 j i = if 8 * gt ≤ i ∧ i < 8 * gt + m then 0 else g.1 j i := by
  intro m
  induction m with
  | zero => exact ⟨fun _ _ => rfl, rfl, fun j i _ _ => (if_neg (fun z => by omega)).symm⟩
  | succ m ih =>
    obtain ⟨a1, a2, a3⟩ := ih
    rw [mRs2]
    refine ⟨fun j hj => ?_, a2, fun j i h1 h2 => ?_⟩
    · rw [iI_j (by omega), iI_j (by omega), iI_j (by omega), iI_j (by omega), iI_j (by omega), iI_j (by omega)]; exact a1 j hj
    · by_cases e : i = 8 * gt + m
      · rw [if_pos ⟨by omega, by omega⟩, e]
        have : j = 21 ∨ j = 22 ∨ j = 23 ∨ j = 24 ∨ j = 25 ∨ j = 26 := by omega
        rcases this with u | u | u | u | u | u <;> subst u <;> simp [iI, va_up]
      · have e2 : (iI (iI (iI (iI (iI (iI (mRs2 g gt m) 21 (8 * gt + m) 0) 22 (8 * gt + m) 0) 23 (8 * gt + m) 0) 24 (8 * gt + m) 0) 25 (8 * gt + m) 0) 26 (8 * gt + m) 0).1 j i = (mRs2 g gt m).1 j i := by
          have : j = 21 ∨ j = 22 ∨ j = 23 ∨ j = 24 ∨ j = 25 ∨ j = 26 := by omega
          rcases this with u | u | u | u | u | u <;> subst u <;> simp [iI, va_up, e]
        rw [e2, a3 j i h1 h2]
        by_cases z : 8 * gt ≤ i ∧ i < 8 * gt + m
        · rw [if_pos z, if_pos ⟨z.1, by omega⟩]
        · rw [if_neg z, if_neg (fun u => z ⟨u.1, by omega⟩)]
theorem GInv.restart {g : MS} {n c d gt : Nat} {f : Nat → Nat} (H : GInv g n f c d) (hg : gt < 6) : GInv (mRsG g n gt) n f c d := by
  unfold mRsG
  obtain ⟨a1, a2, a3⟩ := mRs1_1 (iI g 20 gt (g.1 20 gt + 1)) gt n
  obtain ⟨b1, b2, b3⟩ := mRs2_1 (mRs1 (iI g 20 gt (g.1 20 gt + 1)) gt n) gt 8
  have oj : ∀ j, (j < 20 ∨ 27 < j) → (mRs2 (mRs1 (iI g 20 gt (g.1 20 gt + 1)) gt n) gt 8).1 j = g.1 j := fun j hj => by
    rw [b1 j (by omega), a1 j (by omega), iI_j (by omega)]
  have o2 : (mRs2 (mRs1 (iI g 20 gt (g.1 20 gt + 1)) gt n) gt 8).2 = g.2 := b2.trans a2
  have o27 : ∀ h, (mRs2 (mRs1 (iI g 20 gt (g.1 20 gt + 1)) gt n) gt 8).1 27 h = if h < n ∧ g.1 27 h = nI (gt + 1) then 0 else g.1 27 h := fun h => by
    rw [b1 27 (by omega), a3]; rfl
  refine ⟨H.a.same (fun j hj => oj j (by revert hj; simp; omega)) (by rw [o2]) (by rw [o2]) (by rw [o2]), H.b.same (fun j hj => oj j (by revert hj; simp; omega)) (by rw [o2]), fun h hh => ?_, fun i hi => ?_⟩
  · rw [o27] at hh
    by_cases z : h < n ∧ g.1 27 h = nI (gt + 1)
    · rw [if_pos z] at hh; exact absurd rfl hh
    · rw [if_neg z] at hh
      obtain ⟨a, g2, k2, c1, c2, c3, ⟨c, d1, d2, d3⟩, c5, c6⟩ := H.c.ho h hh
      have hne : g2 ≠ gt := fun e => z ⟨a, by rw [← e]; exact c3⟩
      have e20 : (mRs2 (mRs1 (iI g 20 gt (g.1 20 gt + 1)) gt n) gt 8).1 20 g2 = g.1 20 g2 := by
        rw [b1 20 (by omega), a1 20 (by omega), iI_o hne]
      have ed : ∀ j, 21 ≤ j → j ≤ 26 → (mRs2 (mRs1 (iI g 20 gt (g.1 20 gt + 1)) gt n) gt 8).1 j (8 * g2 + k2) = g.1 j (8 * g2 + k2) := fun j h1 h2 => by
        rw [b3 j _ h1 h2, if_neg (by omega), a1 j (by omega), iI_j (by omega)]
      refine ⟨a, g2, k2, c1, c2, by rw [o27, if_neg z]; exact c3, ⟨c, ?_, by rw [ed 23 (by omega) (by omega)]; exact d2, by rw [ed 23 (by omega) (by omega), ed 24 (by omega) (by omega)]; exact d3⟩, by rw [oj 28 (by omega)]; exact c5, ?_⟩
      · unfold Lo at *; rw [e20, oj 8 (by omega), oj 32 (by omega)]; exact d1
      · unfold HT at *; rw [oj 29 (by omega), oj 30 (by omega)]; exact c6
  · have dk := H.c.dk i hi
    rw [b3 23 i (by omega) (by omega), b3 25 i (by omega) (by omega), a1 23 (by omega), a1 25 (by omega), iI_j (by omega), iI_j (by omega)]
    by_cases z : 8 * gt ≤ i ∧ i < 8 * gt + 8
    · rw [if_pos z, if_pos z, show (0 : Int32).toInt = 0 from rfl]; omega
    · rw [if_neg z, if_neg z]; exact dk
/-! time goes on -/
theorem gone_ck {g : MS} {n c : Nat} {x : Int32} (H : IA g n c) (hc : c < 512) (h1 : 1 ≤ x.toInt) (h2 : x.toInt ≤ 5000) {i : Nat} (hi : i < 7) : (g.2.1 1 i + x.toInt64 * (g.1 2 i).toInt64).toInt = (g.2.1 1 i).toInt + x.toInt * (g.1 2 i).toInt ∧ (g.2.1 1 i).toInt ≤ (g.2.1 1 i + x.toInt64 * (g.1 2 i).toInt64).toInt ∧ (g.2.1 1 i + x.toInt64 * (g.1 2 i).toInt64).toInt ≤ 5005000 * (c + 1 : Nat) := by
  have a := H.ck i hi
  have e : (x.toInt64 * (g.1 2 i).toInt64).toInt = x.toInt * (g.1 2 i).toInt := i64_prod (by omega) (by omega) (by omega) (by omega)
  have p : 0 ≤ x.toInt * (g.1 2 i).toInt := Int.mul_nonneg (by omega) (by omega)
  have p2 : x.toInt * (g.1 2 i).toInt ≤ 5000 * 1001 := Int.mul_le_mul h2 (by omega) (by omega) (by omega)
  rw [i64_add (by omega) (by omega), e]
  omega
theorem tick_to {g : MS} {n c : Nat} {x : Int32} (H : IA g n c) (hc : c < 512) (h1 : 1 ≤ x.toInt) (h2 : x.toInt ≤ 5000) : mClk (mGone g x 7) 6 = mClk (iL g 1 6 (g.2.1 1 6 + x.toInt64 * (g.1 2 6).toInt64)) 6 ∧ (mClk g 6).toInt ≤ (mClk (mGone g x 7) 6).toInt ∧ 0 ≤ (mClk g 6).toInt ∧ (mClk (mGone g x 7) 6).toInt ≤ 4000000 := by
  obtain ⟨b1, b2, b3, b4⟩ := mGone_1 g x 7
  have a := (H.ck 6 (by omega)).1
  obtain ⟨e1, e2, e3⟩ := gone_ck H hc h1 h2 (show 6 < 7 by omega)
  have v : (mGone g x 7).2.1 1 6 = g.2.1 1 6 + x.toInt64 * (g.1 2 6).toInt64 := by rw [b4, if_pos (by omega)]
  have u : (iL g 1 6 (g.2.1 1 6 + x.toInt64 * (g.1 2 6).toInt64)).2.1 1 6 = g.2.1 1 6 + x.toInt64 * (g.1 2 6).toInt64 := iL_s
  refine ⟨by unfold mClk; rw [v, u], ?_⟩
  rw [clk_I (g := mGone g x 7) (by rw [v]; omega) (by rw [v]; omega), clk_I a.1 (by omega), v]
  omega
theorem GInv.tick {g : MS} {n c d : Nat} {f : Nat → Nat} {x : Int32} (H : GInv g n f c d) (hc : c < 512) (h1 : 1 ≤ x.toInt) (h2 : x.toInt ≤ 5000) : GInv (mRoot (mGone g x 7) n (mClk g 6) (mClk (mGone g x 7) 6)) n f (c + 1) d := by
  obtain ⟨b1, b2, b3, b4⟩ := mGone_1 g x 7
  obtain ⟨-, t1, t2, t3⟩ := tick_to H.a hc h1 h2
  have Hb : BInv (mGone g x 7) n := H.a.bi.same (by rw [b1]) (by rw [b1]) (b2 5 (by decide)) (by rw [b1]) (by rw [b1])
  have Lb : LvOk (mGone g x 7) n (mClk g 6).toInt := H.a.lv.same (by rw [b1]) (by rw [b1]) (by rw [b1]) (by rw [b1]) (b2 5 (by decide))
  have hky : ∀ h, h < n → ∃ k, k < 8 ∧ (mGone g x 7).1 8 h = nI k := fun h hh => by
    obtain ⟨-, gt, kk, -, e1, e2, -⟩ := H.b.lo h hh
    exact ⟨kk, e1, by rw [b1]; exact e2⟩
  have R := mRoot_R H.a.n3 Hb Lb t2 t1 t3
  have BR : BInv (mRoot (mGone g x 7) n (mClk g 6) (mClk (mGone g x 7) 6)) n := by
    rw [← kPs_mRoot H.a.n3 Hb Lb hky t2 t1 t3]; exact kPs_I H.a.n3 Hb 8 (Nat.le_refl _)
  have Rl := R.ln
  obtain ⟨r1, r2, r3, r4, r5, r6, r7⟩ := R
  generalize mRoot (mGone g x 7) n (mClk g 6) (mClk (mGone g x 7) 6) = q at *
  have oj : ∀ j, j ≠ 9 → q.1 j = g.1 j := fun j hj => (r1 j hj).trans (by rw [b1])
  have ec : mClk q 6 = mClk (mGone g x 7) 6 := mClk_eq (by rw [r2 1 (by decide)])
  refine ⟨⟨H.a.n3, by rw [r3, b3]; exact H.a.nl, BR, ?_, by rw [r3, b3]; exact H.a.ln, fun i hi => ?_, ?_, ?_⟩, H.b.same (fun j hj => oj j (by intro e; subst e; revert hj; decide)) (by rw [r3, b3]), H.c.same (fun j hj => oj j (by intro e; subst e; revert hj; decide))⟩
  · unfold WOk; rw [oj 19 (by decide)]; exact H.a.wo
  · rw [r2 1 (by decide), b4, if_pos hi, oj 2 (by decide)]
    obtain ⟨e1, e2, e3⟩ := gone_ck H.a hc h1 h2 hi
    have := (H.a.ck i hi)
    exact ⟨⟨by omega, e3⟩, this.2⟩
  · intro k hk
    rw [r5 k hk, Rl]
    have := lvI_le (g := mGone g x 7) (k := k) (n := n) (tm := (mClk g 6).toInt) ((mClk (mGone g x 7) 6).toInt - (mClk g 6).toInt).toNat (Lb.mx k hk)
    rw [show (mClk g 6).toInt + (((mClk (mGone g x 7) 6).toInt - (mClk g 6).toInt).toNat : Int) = (mClk (mGone g x 7) 6).toInt by omega, mxI] at this
    rw [r1 4 (by decide)]; exact this
  · intro h hh z
    rw [ec, r1 10 (by decide)]
    have := r7 h
    by_cases u : h < n ∧ ((mGone g x 7).1 10 h).toInt ≤ (mClk (mGone g x 7) 6).toInt
    · rw [if_pos u] at this; exact absurd this z
    · have : ¬ ((mGone g x 7).1 10 h).toInt ≤ (mClk (mGone g x 7) 6).toInt := fun v => u ⟨hh, v⟩
      omega
/-! an ask is heard -/
theorem IB.hear {g : MS} {n gt : Nat} {f : Nat → Nat} {b : Int32} (H : IB g n f) (hg : gt < 6) (hb : g.1 12 gt < b) : IB (mForget (iI g 12 gt b) gt 8) n f := by
  have oj : ∀ j, j ≠ 12 → j ≠ 13 → (mForget (iI g 12 gt b) gt 8).1 j = g.1 j := fun j h1 h2 => by rw [mForget_j _ _ h2, iI_j h1]
  have o2 : (mForget (iI g 12 gt b) gt 8).2 = g.2 := mForget_2 _ _ _
  have o12 : ∀ i, (mForget (iI g 12 gt b) gt 8).1 12 i = if i = gt then b else g.1 12 i := fun i => by
    rw [mForget_j _ _ (by decide)]
    by_cases e : i = gt
    · rw [if_pos e, e]; exact iI_s
    · rw [if_neg e]; exact iI_o e
  have o13 := mForget_13 (iI g 12 gt b) gt 8
  have eN : mqN (mForget (iI g 12 gt b) gt 8) = mqN g := by unfold mqN; rw [o2]
  rw [Int32.lt_iff_toInt_lt] at hb
  generalize mForget (iI g 12 gt b) gt 8 = q at *
  refine ⟨MsgOk_of (by rw [o2]) H.mo, fun x hx => ?_, fun x hx => ?_, ?_, fun gt2 kk hg2 hk => ?_⟩
  · have := H.ms x (by omega)
    unfold MV MW Lo at *
    rw [oj 32 (by decide) (by decide), oj 8 (by decide) (by decide)]; exact this
  · obtain ⟨a, g2, k2, b1, b2, b3, b4, b5, b6, b7⟩ := H.lo x hx
    refine ⟨by omega, g2, k2, b1, b2, by rw [oj 8 (by decide) (by decide)]; exact b3, by rw [oj 32 (by decide) (by decide)]; exact b4, by rw [oj 32 (by decide) (by decide)]; exact b5, ?_, ?_⟩
    · rw [oj 32 (by decide) (by decide), o12]
      by_cases e : g2 = gt
      · subst e; rw [if_pos rfl]; omega
      · rw [if_neg e]; exact b6
    · rw [oj 32 (by decide) (by decide), o12, o13]
      by_cases e : g2 = gt
      · subst e
        rw [if_pos rfl]
        intro z
        rw [z] at b6
        omega
      · rw [if_neg e, if_neg (by omega)]; exact b7
  · have := H.g3
    unfold G3 at *
    rw [oj 32 (by decide) (by decide), oj 8 (by decide) (by decide)]; exact this
  · unfold AV
    by_cases e : gt2 = gt
    · subst e
      exact Or.inl (by rw [o13, if_pos ⟨by omega, by omega⟩])
    · rw [o13, if_neg (by omega), o12, if_neg e, oj 14 (by decide) (by decide), oj 15 (by decide) (by decide), oj 16 (by decide) (by decide)]
      have := H.an gt2 kk hg2 hk
      unfold AV Lo at *
      rw [oj 32 (by decide) (by decide), oj 8 (by decide) (by decide)]; exact this
theorem GInv.hear {g : MS} {n c d gt : Nat} {f : Nat → Nat} {b : Int32} (H : GInv g n f c d) (hg : gt < 6) : GInv (mHear g gt b) n f c d := by
  have hj := fun j (h1 : j ≠ 12) (h2 : j ≠ 13) => mHear_j g gt b h1 h2
  have h2 := mHear_2 g gt b
  refine ⟨H.a.same (fun j hj2 => hj j (by intro e; subst e; revert hj2; decide) (by intro e; subst e; revert hj2; decide)) (by rw [h2]) (by rw [h2]) (by rw [h2]), ?_, H.c.same (fun j hj2 => hj j (by intro e; subst e; revert hj2; decide) (by intro e; subst e; revert hj2; decide))⟩
  unfold mHear
  split
  · rename_i z; exact H.b.hear hg z
  · exact H.b
/-- no two loans of one message -/
theorem pig : ∀ (N n : Nat) (f : Nat → Nat), (∀ i, i < n → f i < N) → (∀ i j, i < j → j < n → f i ≠ f j) → n ≤ N := by
  intro N
  induction N with
  | zero =>
    intro n f h1 _
    cases n with
    | zero => exact Nat.le_refl _
    | succ m => exact absurd (h1 m (Nat.lt_succ_self _)) (Nat.not_lt_zero _)
  | succ N ih =>
    intro n f h1 h2
    cases n with
    | zero => exact Nat.zero_le _
    | succ m =>
      have := ih m (fun i => if f i = N then f m else f i) (fun i hi => ?_) (fun i j hi hj => ?_)
      · omega
      · have a := h1 i (by omega)
        have b := h1 m (by omega)
        have c := h2 i m hi (by omega)
        show (if f i = N then f m else f i) < N
        split
        · rename_i z; omega
        · omega
      · have a := h2 i j hi (by omega)
        have b := h2 i m (by omega) (by omega)
        have c := h2 j m hj (by omega)
        show (if f i = N then f m else f i) ≠ (if f j = N then f m else f j)
        split
        · rename_i z
          split
          · rename_i y; omega
          · omega
        · split
          · omega
          · exact a
theorem IB.inj {g : MS} {n : Nat} {f : Nat → Nat} (H : IB g n f) : ∀ i j, i < j → j < n → f i ≠ f j := by
  intro i j hi hj e
  obtain ⟨-, g1, k1, a1, a2, a3, a4, a5, -⟩ := H.lo i (by omega)
  obtain ⟨-, g2, k2, b1, b2, b3, b4, b5, -⟩ := H.lo j hj
  rw [e] at a5
  have := H.g3 i j hi hj (by rw [e]) (by rw [a3, b3, ← a5, b5]) (by rw [e])
  rw [e] at this
  omega
/-- a new answer: its message made no loan yet -/
theorem IB.fresh {g : MS} {n gt kk q : Nat} {f : Nat → Nat} (H : IB g n f) (hg : gt < 6) (hk : kk < 8) (w1 : g.1 32 (8 * q + 1) = nI gt) (w2 : g.1 32 (8 * q + 2) = nI kk) (w4 : g.1 32 (8 * q + 4) = g.1 12 gt) (w5 : (g.1 13 (8 * gt + kk)).toInt < (g.1 32 (8 * q + 5)).toInt) : ∀ h, h < n → f h ≠ q := by
  intro h hh e
  obtain ⟨-, g1, k1, a1, a2, a3, a4, a5, a6, a7⟩ := H.lo h hh
  rw [e] at a4 a5 a7
  have eg : gt = g1 := nI_ij (w1.symm.trans a4) (by omega) (by omega)
  have ek : kk = k1 := nI_ij (w2.symm.trans a5) (by omega) (by omega)
  rw [← eg, ← ek] at a7
  have := a7 w4
  omega
theorem IB.new_lt {g : MS} {n gt kk q : Nat} {f : Nat → Nat} (H : IB g n f) (hg : gt < 6) (hk : kk < 8) (hq : q < mqN g) (w1 : g.1 32 (8 * q + 1) = nI gt) (w2 : g.1 32 (8 * q + 2) = nI kk) (w4 : g.1 32 (8 * q + 4) = g.1 12 gt) (w5 : (g.1 13 (8 * gt + kk)).toInt < (g.1 32 (8 * q + 5)).toInt) : n < 300 := by
  have fr := H.fresh hg hk w1 w2 w4 w5
  have := pig (mqN g) (n + 1) (va_up f n q) (fun i hi => ?_) (fun i j hi hj => ?_)
  · have := H.mo.2; omega
  · by_cases e : i = n
    · rw [e, up_same]; exact hq
    · rw [va_up_ne _ _ e]; exact (H.lo i (by omega)).1
  · rw [va_up_ne _ _ (show i ≠ n by omega)]
    by_cases e : j = n
    · rw [e, up_same]; exact fr i (by omega)
    · rw [va_up_ne _ _ e]; exact H.inj i j hi (by omega)
theorem Lo.mono {g R : MS} {f f2 : Nat → Nat} {h gt kk : Nat} {b c : Int32} (H : Lo g f h gt kk b c) (r8 : R.1 8 h = g.1 8 h) (r32 : R.1 32 = g.1 32) (hf : f2 h = f h) : Lo R f2 h gt kk b c := by
  unfold Lo at *; rw [r8, r32, hf]; exact H
theorem IB.ans {g R : MS} {n n2 gt kk q : Nat} {f f2 : Nat → Nat} {gets : Int32} (H : IB g n f) (hg : gt < 6) (hk : kk < 8) (hq : q < mqN g) (w1 : g.1 32 (8 * q + 1) = nI gt) (w2 : g.1 32 (8 * q + 2) = nI kk) (w4 : g.1 32 (8 * q + 4) = g.1 12 gt) (w5 : (g.1 13 (8 * gt + kk)).toInt < (g.1 32 (8 * q + 5)).toInt) (w0 : 0 ≤ (g.1 32 (8 * q + 5)).toInt)
    (r8 : ∀ h, h < n → R.1 8 h = g.1 8 h) (r12 : R.1 12 = g.1 12) (r32 : R.1 32 = g.1 32) (r2 : R.2.2 1131 = g.2.2 1131) (r13 : R.1 13 (8 * gt + kk) = g.1 32 (8 * q + 5)) (r15 : R.1 15 (8 * gt + kk) = gets) (hgs : 0 ≤ gets.toInt ∧ gets.toInt ≤ 1000000) (r16 : 0 ≤ (R.1 16 (8 * gt + kk)).toInt ∧ (R.1 16 (8 * gt + kk)).toInt ≤ 9000)
    (ro : ∀ j, (j = 13 ∨ j = 14 ∨ j = 15 ∨ j = 16) → ∀ i, i ≠ 8 * gt + kk → R.1 j i = g.1 j i) (hf : ∀ h, h < n → f2 h = f h) (hn : (n2 = n ∧ gets.toInt = 0) ∨ (n2 = n + 1 ∧ R.1 8 n = nI kk ∧ f2 n = q ∧ R.1 14 (8 * gt + kk) = nI n)) : IB R n2 f2 := by
  have eN : mqN R = mqN g := by unfold mqN; rw [r2]
  have hle : n ≤ n2 := by rcases hn with z | z <;> omega
  have fr := H.fresh hg hk w1 w2 w4 w5
  have old : ∀ h, h < n → LV R f2 h := fun h hh => by
    obtain ⟨a, g2, k2, b1, b2, b3, b4, b5, b6, b7⟩ := H.lo h hh
    refine ⟨by rw [hf h hh]; omega, g2, k2, b1, b2, by rw [r8 h hh]; exact b3, by rw [r32, hf h hh]; exact b4, by rw [r32, hf h hh]; exact b5, by rw [r32, hf h hh, r12]; exact b6, ?_⟩
    rw [r32, hf h hh, r12]
    intro z
    have := b7 z
    by_cases e : 8 * g2 + k2 = 8 * gt + kk
    · rw [e, r13]
      rw [e] at this
      omega
    · rw [ro 13 (by omega) _ e]; exact this
  refine ⟨MsgOk_of r2 H.mo, fun x hx => ?_, fun h hh => ?_, fun h h2 hlt h2n u1 u2 u3 => ?_, fun g2 k2 hg2 hk2 => ?_⟩
  · obtain ⟨g2, k2, a1, a2, a3, a4, z⟩ := H.ms x (by omega)
    unfold MV
    rw [r32]
    refine ⟨g2, k2, a1, a2, a3, a4, ?_⟩
    rcases z with z | ⟨z1, z2, z3, z4⟩ | ⟨z1, z2, h, z3, z4, z5⟩
    · exact Or.inl z
    · refine Or.inr (Or.inl ⟨z1, z2, z3, fun u => ?_⟩)
      obtain ⟨h, h1, h2, h3⟩ := z4 u
      exact ⟨h, by omega, h2, h3.mono (r8 h h1) r32 (hf h h1)⟩
    · exact Or.inr (Or.inr ⟨z1, z2, h, by omega, z4, by rw [r8 h z3]; exact z5⟩)
  · by_cases e : h < n
    · exact old h e
    · rcases hn with z | ⟨z1, z2, z3, z4⟩
      · omega
      · have e2 : h = n := by omega
        subst e2
        exact ⟨by rw [z3]; omega, gt, kk, hg, hk, z2, by rw [r32, z3]; exact w1, by rw [r32, z3]; exact w2, by rw [r32, z3, w4, r12]; exact Int.le_refl _, fun _ => by rw [r32, z3, r13]; exact Int.le_refl _⟩
  · by_cases e : h2 < n
    · have hh : h < n := by omega
      rw [r32, hf h hh, hf h2 e] at u1 u3 ⊢
      rw [r8 h hh, r8 h2 e] at u2
      exact H.g3 h h2 hlt e u1 u2 u3
    · rcases hn with z | ⟨z1, z2, z3, z4⟩
      · omega
      · have e2 : h2 = n := by omega
        subst e2
        rw [r32, hf h hlt, z3] at u1 u3 ⊢
        rw [r8 h hlt, z2] at u2
        obtain ⟨a, g2, k2, b1, b2, b3, b4, b5, b6, b7⟩ := H.lo h hlt
        have eg : g2 = gt := nI_ij (b4.symm.trans (u1.trans w1)) (by omega) (by omega)
        have ek : k2 = kk := nI_ij (b3.symm.trans u2) (by omega) (by omega)
        rw [eg, ek] at b7
        have := b7 (u3.trans w4)
        omega
  · by_cases e : 8 * g2 + k2 = 8 * gt + kk
    · have eg : g2 = gt := by omega
      have ek : k2 = kk := by omega
      subst eg; subst ek
      refine Or.inr ⟨by rw [r13]; exact w0, by rw [r15]; exact hgs, r16, fun u => ?_⟩
      rw [r15] at u
      rcases hn with z | ⟨z1, z2, z3, z4⟩
      · omega
      · exact ⟨n, by omega, z4, z2, by rw [r32, z3]; exact w1, by rw [r32, z3, r12]; exact w4, by rw [r32, z3, r13]⟩
    · unfold AV
      rw [ro 13 (by omega) _ e, ro 14 (by omega) _ e, ro 15 (by omega) _ e, ro 16 (by omega) _ e, r12]
      rcases H.an g2 k2 hg2 hk2 with z | ⟨z1, z2, z3, z4⟩
      · exact Or.inl z
      · refine Or.inr ⟨z1, z2, z3, fun u => ?_⟩
        obtain ⟨h, h1, h2, h3⟩ := z4 u
        exact ⟨h, by omega, h2, h3.mono (r8 h h1) r32 (hf h h1)⟩
/-- a loan more: the numbers -/
theorem IA.lend {g : MS} {n c kk : Nat} {gets : Int32} (H : IA g n c) (hc : c ≤ 512) (hn : n < 300) (hk : kk < 8) (h1 : 1 ≤ gets.toInt) (h2 : gets.toInt ≤ (mFree g kk).toInt) (h3 : gets.toInt ≤ 1000000) : IA (iF (kLend g n kk gets (mClk g 6 + g.2.2 1111)) 1107 (nI (n + 1))) (n + 1) c := by
  have B := H.bi
  have b := (B.1 kk hk).2.2
  have ct := H.ct hc (show 6 < 7 by omega)
  unfold CT at ct
  have fr := free_same b.1 b.2
  have ln := H.ln
  have e1000 : (1000 : Int64).toInt = 1000 := by decide
  have hfr : (mFree g kk).toInt = (g.2.1 5 kk).toInt / 1000 := by
    have bb : (g.2.1 5 kk / 1000).toInt = (g.2.1 5 kk).toInt / 1000 := by
      rw [Int64.toInt_div, e1000, Int.tdiv_eq_ediv_of_nonneg b.1]; exact Int.bmod_eq_of_le (by omega) (by omega)
    unfold mFree
    rw [Int64.toInt_toInt32, bb]; exact Int.bmod_eq_of_le (by omega) (by omega)
  have ep : (1000 * gets.toInt64).toInt = 1000 * gets.toInt := by
    rw [i64_mul (by rw [e1000, Int32.toInt_toInt64]; omega) (by rw [e1000, Int32.toInt_toInt64]; omega), e1000, Int32.toInt_toInt64]
  have el : (g.2.1 5 kk - 1000 * gets.toInt64).toInt = (g.2.1 5 kk).toInt - 1000 * gets.toInt := by
    rw [Int64.toInt_sub, ep]; exact Int.bmod_eq_of_le (by omega) (by omega)
  have ee : (mClk g 6 + g.2.2 1111).toInt = (mClk g 6).toInt + (g.2.2 1111).toInt := i32_add (by omega) (by omega)
  have v8 : (iF (kLend g n kk gets (mClk g 6 + g.2.2 1111)) 1107 (nI (n + 1))).1 8 = va_up (g.1 8) n (nI kk) := rfl
  have v9 : (iF (kLend g n kk gets (mClk g 6 + g.2.2 1111)) 1107 (nI (n + 1))).1 9 = va_up (g.1 9) n gets := rfl
  have v10 : (iF (kLend g n kk gets (mClk g 6 + g.2.2 1111)) 1107 (nI (n + 1))).1 10 = va_up (g.1 10) n (mClk g 6 + g.2.2 1111) := rfl
  have v5 : ∀ i, (iF (kLend g n kk gets (mClk g 6 + g.2.2 1111)) 1107 (nI (n + 1))).2.1 5 i = if i = kk then g.2.1 5 kk - 1000 * gets.toInt64 else g.2.1 5 i := fun i => rfl
  have o3 : (iF (kLend g n kk gets (mClk g 6 + g.2.2 1111)) 1107 (nI (n + 1))).1 3 = g.1 3 := rfl
  have o4 : (iF (kLend g n kk gets (mClk g 6 + g.2.2 1111)) 1107 (nI (n + 1))).1 4 = g.1 4 := rfl
  have oc : mClk (iF (kLend g n kk gets (mClk g 6 + g.2.2 1111)) 1107 (nI (n + 1))) 6 = mClk g 6 := rfl
  have wo : WOk (iF (kLend g n kk gets (mClk g 6 + g.2.2 1111)) 1107 (nI (n + 1))) := H.wo
  have ck := H.ck
  refine ⟨by omega, iF_s, ⟨fun i hi => ?_, fun h hh => ?_⟩, wo, ln, ck, ⟨fun i hi => ?_, fun h hh z => ?_⟩⟩
  · rw [o3, o4, v5]
    have := B.1 i hi
    refine ⟨this.1, this.2.1, ?_⟩
    by_cases e : i = kk
    · rw [if_pos e, el]; omega
    · rw [if_neg e]; exact this.2.2
  · rw [v9, v10]
    by_cases e : h = n
    · rw [e, up_same, up_same, ee]; omega
    · rw [va_up_ne _ _ e, va_up_ne _ _ e]; exact B.2 h (by omega)
  · have es : smI (iF (kLend g n kk gets (mClk g 6 + g.2.2 1111)) 1107 (nI (n + 1))) i n = smI g i n := by
      have : ∀ m, m ≤ n → smI (iF (kLend g n kk gets (mClk g 6 + g.2.2 1111)) 1107 (nI (n + 1))) i m = smI g i m := by
        intro m
        induction m with
        | zero => intro _; rfl
        | succ m ih => intro hm; rw [smI, smI, ih (by omega), v8, v9, va_up_ne _ _ (by omega), va_up_ne _ _ (by omega)]
      exact this n (Nat.le_refl _)
    rw [smI, es, v8, v9, up_same, up_same, v5, o4]
    have l := H.lv.1 i hi
    by_cases e : i = kk
    · subst e
      rw [if_pos rfl, if_pos rfl, el]
      omega
    · rw [if_neg e, if_neg (fun u => nI_ne (by omega) (by omega) e u.symm)]; exact l
  · rw [oc]
    rw [v9] at z
    rw [v10]
    by_cases e : h = n
    · rw [e, up_same, ee]; omega
    · rw [va_up_ne _ _ e] at z ⊢; exact H.lv.2 h (by omega) z
/-- a message's words, while it is carried -/
def MsW (g : MS) (q gt kk : Nat) (tok birth count : Int32) : Prop := q < mqN g ∧ g.1 32 (8 * q + 1) = nI gt ∧ g.1 32 (8 * q + 2) = nI kk ∧ g.1 32 (8 * q + 3) = tok ∧ g.1 32 (8 * q + 4) = birth ∧ g.1 32 (8 * q + 5) = count
theorem MsW.hear {g : MS} {q gt kk gt2 : Nat} {tok birth count b : Int32} (H : MsW g q gt kk tok birth count) : MsW (mHear g gt2 b) q gt kk tok birth count := by
  unfold MsW mqN at *
  rw [mHear_j _ _ _ (by decide) (by decide), mHear_2]; exact H
theorem GInv.new_lt {g : MS} {n c d gt kk q : Nat} {f : Nat → Nat} {tok birth count : Int32} (H : GInv g n f c d) (hg : gt < 6) (hk : kk < 8) (W : MsW g q gt kk tok birth count) (h : mNew g gt kk birth count) : n < 300 := by
  have H2 := H.hear (b := birth) hg
  obtain ⟨w0, w1, w2, w3, w4, w5⟩ := W.hear (gt2 := gt) (b := birth)
  have h2 := h.2
  rw [Int32.lt_iff_toInt_lt] at h2
  exact H2.b.new_lt hg hk w0 w1 w2 (by rw [w4, mHear_12 h.1]) (by rw [w5]; exact h2)
theorem IC.mono {g R : MS} {n n2 d : Nat} {f f2 : Nat → Nat} (H : IC g n f d) (hn : n ≤ n2) (r8 : ∀ h, h < n → R.1 8 h = g.1 8 h) (hf : ∀ h, h < n → f2 h = f h) (h : ∀ j, j ∈ [20, 23, 24, 25, 27, 28, 29, 30, 32] → R.1 j = g.1 j) : IC R n2 f2 d := by
  have h20 := h 20 (by decide)
  have h23 := h 23 (by decide)
  have h24 := h 24 (by decide)
  have h25 := h 25 (by decide)
  have h27 := h 27 (by decide)
  have h28 := h 28 (by decide)
  have h29 := h 29 (by decide)
  have h30 := h 30 (by decide)
  have h32 := h 32 (by decide)
  refine ⟨fun x hx => ?_, fun i hi => by rw [h23, h25]; exact H.dk i hi⟩
  rw [h27] at hx
  obtain ⟨a, gt, kk, b1, b2, b3, ⟨c, c1, c2, c3⟩, b5, b6⟩ := H.ho x hx
  refine ⟨by omega, gt, kk, b1, b2, by rw [h27]; exact b3, ⟨c, ?_, by rw [h23]; exact c2, by rw [h23, h24]; exact c3⟩, by rw [h28]; exact b5, by unfold HT at *; rw [h29, h30]; exact b6⟩
  rw [h20]; exact c1.mono (r8 x a) h32 (hf x a)
/-- the answer itself -/
theorem GInv.ans {g : MS} {n c d gt kk q : Nat} {f : Nat → Nat} {tok count gets : Int32} (H : GInv g n f c d) (hc : c ≤ 512) (hn : n < 300) (hg : gt < 6) (hk : kk < 8) (W : MsW g q gt kk tok (g.1 12 gt) count) (w5 : g.1 13 (8 * gt + kk) < count) (w0 : 0 ≤ count.toInt) (hgs : 0 ≤ gets.toInt ∧ gets.toInt ≤ (mFree g kk).toInt ∧ gets.toInt ≤ 1000000) : ∃ f2, GInv (iI (iI (iI (iI (kAns g n gt kk gets) 13 (8 * gt + kk) count) 15 (8 * gt + kk) gets) 16 (8 * gt + kk) (g.2.2 1111)) 14 (8 * gt + kk) (kNum n gets)) (kN n gets) f2 c d := by
  obtain ⟨m0, m1, m2, m3, m4, m5⟩ := W
  rw [Int32.lt_iff_toInt_lt] at w5
  have e0 : (0 : Int32).toInt = 0 := rfl
  have oj : ∀ j, j ≠ 13 → j ≠ 14 → j ≠ 15 → j ≠ 16 → (iI (iI (iI (iI (kAns g n gt kk gets) 13 (8 * gt + kk) count) 15 (8 * gt + kk) gets) 16 (8 * gt + kk) (g.2.2 1111)) 14 (8 * gt + kk) (kNum n gets)).1 j = (kAns g n gt kk gets).1 j := fun j a1 a2 a3 a4 => by
    rw [iI_j a2, iI_j a4, iI_j a3, iI_j a1]
  have v13 : (iI (iI (iI (iI (kAns g n gt kk gets) 13 (8 * gt + kk) count) 15 (8 * gt + kk) gets) 16 (8 * gt + kk) (g.2.2 1111)) 14 (8 * gt + kk) (kNum n gets)).1 13 (8 * gt + kk) = count := by simp [iI, va_up]
  have v14 : (iI (iI (iI (iI (kAns g n gt kk gets) 13 (8 * gt + kk) count) 15 (8 * gt + kk) gets) 16 (8 * gt + kk) (g.2.2 1111)) 14 (8 * gt + kk) (kNum n gets)).1 14 (8 * gt + kk) = kNum n gets := by simp [iI, va_up]
  have v15 : (iI (iI (iI (iI (kAns g n gt kk gets) 13 (8 * gt + kk) count) 15 (8 * gt + kk) gets) 16 (8 * gt + kk) (g.2.2 1111)) 14 (8 * gt + kk) (kNum n gets)).1 15 (8 * gt + kk) = gets := by simp [iI, va_up]
  have v16 : (iI (iI (iI (iI (kAns g n gt kk gets) 13 (8 * gt + kk) count) 15 (8 * gt + kk) gets) 16 (8 * gt + kk) (g.2.2 1111)) 14 (8 * gt + kk) (kNum n gets)).1 16 (8 * gt + kk) = g.2.2 1111 := by simp [iI, va_up]
  have ov : ∀ j, (j = 13 ∨ j = 14 ∨ j = 15 ∨ j = 16) → ∀ i, i ≠ 8 * gt + kk → (iI (iI (iI (iI (kAns g n gt kk gets) 13 (8 * gt + kk) count) 15 (8 * gt + kk) gets) 16 (8 * gt + kk) (g.2.2 1111)) 14 (8 * gt + kk) (kNum n gets)).1 j i = (kAns g n gt kk gets).1 j i := fun j hj i hi => by
    rcases hj with e | e | e | e <;> subst e <;> simp [iI, va_up, hi]
  have o2 : (iI (iI (iI (iI (kAns g n gt kk gets) 13 (8 * gt + kk) count) 15 (8 * gt + kk) gets) 16 (8 * gt + kk) (g.2.2 1111)) 14 (8 * gt + kk) (kNum n gets)).2 = (kAns g n gt kk gets).2 := rfl
  generalize (iI (iI (iI (iI (kAns g n gt kk gets) 13 (8 * gt + kk) count) 15 (8 * gt + kk) gets) 16 (8 * gt + kk) (g.2.2 1111)) 14 (8 * gt + kk) (kNum n gets)) = R at *
  have A1 : IA (mAn1 g gt kk) n c := H.a.same (fun j hj => by
    show (iI (iI g 17 (8 * gt + kk) 1) 18 (8 * gt + kk) (mClk g 6)).1 j = _
    rw [iI_j (by intro e; subst e; revert hj; decide), iI_j (by intro e; subst e; revert hj; decide)]) rfl rfl rfl
  have oA : ∀ j, j ≠ 17 → j ≠ 18 → (mAn1 g gt kk).1 j = g.1 j := fun j a1 a2 => by
    show (iI (iI g 17 (8 * gt + kk) 1) 18 (8 * gt + kk) (mClk g 6)).1 j = _
    rw [iI_j a2, iI_j a1]
  have ln := H.a.ln
  by_cases z : 0 < gets
  · have eK : kAns g n gt kk gets = iF (kLend (mAn1 g gt kk) n kk gets (mClk g 6 + g.2.2 1111)) 1107 (nI (n + 1)) := if_pos z
    have eN : kN n gets = n + 1 := if_pos z
    have eM : kNum n gets = nI n := if_pos z
    rw [Int32.lt_iff_toInt_lt] at z
    have A2 : IA (kAns g n gt kk gets) (n + 1) c := by
      rw [eK]; exact A1.lend hc hn hk (by omega) hgs.2.1 hgs.2.2
    have kj : ∀ j, j ≠ 8 → j ≠ 9 → j ≠ 10 → j ≠ 17 → j ≠ 18 → (kAns g n gt kk gets).1 j = g.1 j := fun j a1 a2 a3 a4 a5 => by
      rw [eK]
      show (iI (iI (iI (iL (mAn1 g gt kk) 5 kk _) 8 n (nI kk)) 9 n gets) 10 n _).1 j = _
      rw [iI_j a3, iI_j a2, iI_j a1]; exact oA j a4 a5
    have k8 : ∀ h, (kAns g n gt kk gets).1 8 h = if h = n then nI kk else g.1 8 h := fun h => by
      rw [eK]; rfl
    have k1131 : (kAns g n gt kk gets).2.2 1131 = g.2.2 1131 := by rw [eK]; rfl
    rw [eN]
    refine ⟨va_up f n q, A2.same (fun j hj => oj j (by intro e; subst e; revert hj; decide) (by intro e; subst e; revert hj; decide) (by intro e; subst e; revert hj; decide) (by intro e; subst e; revert hj; decide)) (by rw [o2]) (by rw [o2]) (by rw [o2]), ?_, ?_⟩
    · refine H.b.ans (gets := gets) hg hk m0 m1 m2 m4 (by rw [m5]; exact w5) (by rw [m5]; exact w0) (fun h hh => ?_) ?_ ?_ ?_ (by rw [v13, m5]) v15 ⟨hgs.1, hgs.2.2⟩ (by rw [v16]; omega) (fun j hj i hi => ?_) (fun h hh => va_up_ne _ _ (by omega)) (Or.inr ⟨rfl, ?_, up_same _ _ _, by rw [v14, eM]⟩)
      · rw [oj 8 (by decide) (by decide) (by decide) (by decide), k8, if_neg (by omega)]
      · rw [oj 12 (by decide) (by decide) (by decide) (by decide)]; exact kj 12 (by decide) (by decide) (by decide) (by decide) (by decide)
      · rw [oj 32 (by decide) (by decide) (by decide) (by decide)]; exact kj 32 (by decide) (by decide) (by decide) (by decide) (by decide)
      · rw [o2]; exact k1131
      · rw [ov j hj i hi, kj j (by omega) (by omega) (by omega) (by omega) (by omega)]
      · rw [oj 8 (by decide) (by decide) (by decide) (by decide), k8, if_pos rfl]
    · refine H.c.mono (by omega) (fun h hh => ?_) (fun h hh => va_up_ne _ _ (by omega)) (fun j hj => ?_)
      · rw [oj 8 (by decide) (by decide) (by decide) (by decide), k8, if_neg (by omega)]
      · rw [oj j (by intro e; subst e; revert hj; decide) (by intro e; subst e; revert hj; decide) (by intro e; subst e; revert hj; decide) (by intro e; subst e; revert hj; decide)]
        exact kj j (by intro e; subst e; revert hj; decide) (by intro e; subst e; revert hj; decide) (by intro e; subst e; revert hj; decide) (by intro e; subst e; revert hj; decide) (by intro e; subst e; revert hj; decide)
  · have eK : kAns g n gt kk gets = mAn1 g gt kk := if_neg z
    have eN : kN n gets = n := if_neg z
    rw [Int32.lt_iff_toInt_lt] at z
    rw [eN]
    rw [eK] at oj ov o2
    refine ⟨f, A1.same (fun j hj => oj j (by intro e; subst e; revert hj; decide) (by intro e; subst e; revert hj; decide) (by intro e; subst e; revert hj; decide) (by intro e; subst e; revert hj; decide)) (by rw [o2]) (by rw [o2]) (by rw [o2]), ?_, ?_⟩
    · refine H.b.ans (gets := gets) hg hk m0 m1 m2 m4 (by rw [m5]; exact w5) (by rw [m5]; exact w0) (fun h hh => ?_) ?_ ?_ ?_ (by rw [v13, m5]) v15 ⟨hgs.1, hgs.2.2⟩ (by rw [v16]; omega) (fun j hj i hi => ?_) (fun h hh => rfl) (Or.inl ⟨rfl, by omega⟩)
      · rw [oj 8 (by decide) (by decide) (by decide) (by decide)]; rfl
      · rw [oj 12 (by decide) (by decide) (by decide) (by decide)]; rfl
      · rw [oj 32 (by decide) (by decide) (by decide) (by decide)]; rfl
      · rw [o2]; rfl
      · rw [ov j hj i hi, oA j (by omega) (by omega)]
    · refine H.c.same (fun j hj => ?_)
      rw [oj j (by intro e; subst e; revert hj; decide) (by intro e; subst e; revert hj; decide) (by intro e; subst e; revert hj; decide) (by intro e; subst e; revert hj; decide)]
      exact oA j (by intro e; subst e; revert hj; decide) (by intro e; subst e; revert hj; decide)
/-- a grant is sent (again) -/
theorem GInv.sg {g : MS} {n c d gt kk : Nat} {f : Nat → Nat} (H : GInv g n f c d) (hg : gt < 6) (hk : kk < 8) (h : ¬ g.1 13 (8 * gt + kk) = -1) : GInv (mSG g gt kk) n f c d := by
  rw [mSG_if]
  rcases H.b.an gt kk hg hk with z | ⟨z1, z2, z3, z4⟩
  · exact absurd z h
  · exact H.post ⟨gt, kk, hg, hk, rfl, rfl, Or.inr (Or.inl ⟨rfl, z2, z3, z4⟩)⟩
theorem GInv.asks {g : MS} {n c d gt kk q : Nat} {f : Nat → Nat} {tok birth count : Int32} (H : GInv g n f c d) (hc : c ≤ 512) (hg : gt < 6) (hk : kk < 8) (W : MsW g q gt kk tok birth count) (ht : 0 < tok.toInt) (w0 : 0 ≤ count.toInt) : ∃ f2, GInv (mAsks g n gt kk tok birth count).1 (mN g n gt kk tok birth count) f2 c d := by
  unfold mAsks mN
  by_cases z : birth < g.1 12 gt
  · rw [if_pos z, if_neg (fun u => u.1 z)]; exact ⟨f, H⟩
  · rw [if_neg z]
    unfold mAsk2
    have H2 := H.hear (b := birth) hg
    have W2 := W.hear (gt2 := gt) (b := birth)
    have e12 := mHear_12 z
    have hm1 : (-1 : Int32).toInt = -1 := by decide
    by_cases y : count < (mHear g gt birth).1 13 (8 * gt + kk)
    · rw [if_pos y, if_neg (fun u => absurd u.2 (fun v => by rw [Int32.lt_iff_toInt_lt] at v y; omega))]; exact ⟨f, H2⟩
    · rw [if_neg y]
      by_cases w : (mHear g gt birth).1 13 (8 * gt + kk) < count
      · rw [if_pos (show mNew g gt kk birth count from ⟨z, w⟩)]
        show ∃ f2, GInv (mSG (if (mHear g gt birth).1 13 (8 * gt + kk) < count then mAnswer (mHear g gt birth) n gt kk tok count else mHear g gt birth) gt kk) _ f2 c d
        rw [if_pos w]
        have hn := H.new_lt hg hk W ⟨z, w⟩
        have gr := gets_range H2.a.wo H2.a.bi hg hk ht
        unfold mAnswer
        rw [answer_same gr.1]
        have W3 : MsW (mHear g gt birth) q gt kk tok ((mHear g gt birth).1 12 gt) count := by rw [e12]; exact W2
        obtain ⟨f2, A⟩ := H2.ans (gets := mGets (mHear g gt birth) gt kk tok) hc hn hg hk W3 w w0 ⟨gr.1, gr.2.1, by omega⟩
        refine ⟨f2, A.sg hg hk (fun u => ?_)⟩
        rw [show (iI (iI (iI (iI (kAns (mHear g gt birth) n gt kk (mGets (mHear g gt birth) gt kk tok)) 13 (8 * gt + kk) count) 15 (8 * gt + kk) (mGets (mHear g gt birth) gt kk tok)) 16 (8 * gt + kk) ((mHear g gt birth).2.2 1111)) 14 (8 * gt + kk) (kNum n (mGets (mHear g gt birth) gt kk tok))).1 13 (8 * gt + kk) = count by simp [iI, va_up]] at u
        rw [u] at w0; omega
      · rw [if_neg (show ¬ mNew g gt kk birth count from fun u => w u.2)]
        show ∃ f2, GInv (mSG (if (mHear g gt birth).1 13 (8 * gt + kk) < count then mAnswer (mHear g gt birth) n gt kk tok count else mHear g gt birth) gt kk) _ f2 c d
        rw [if_neg w]
        refine ⟨f, H2.sg hg hk (fun u => ?_)⟩
        rw [Int32.lt_iff_toInt_lt, u] at y w
        omega
