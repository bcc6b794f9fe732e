/-! the layout of the new object -/
def sg (i : Nat) : Nat := if i = 1 then 0 else if i = 2 then 69 else if i = 3 then 71 else if i = 4 then 70 else if i = 5 then 2 else if i = 6 then 3 else if i = 7 then 4 else if i < 16 then 72 + 19 * (i - 10) else if i < 26 then 74 + 19 * (i - 20) else if i < 36 then 73 + 19 * (i - 30) else if i = 36 then 1 else if i < 48 then 5 + 2 * (i - 40) else if i < 58 then 6 + 2 * (i - 50) else if i < 148 then 75 + 19 * ((i - 100) / 8) + 2 * ((i - 100) % 8) else if i < 248 then 76 + 19 * ((i - 200) / 8) + 2 * ((i - 200) % 8) else 21 + (i - 300)
def us (i : Nat) : Bool := (Nat.ble 1 i && Nat.ble i 7) || (Nat.ble 10 i && Nat.ble i 15) || (Nat.ble 20 i && Nat.ble i 25) || (Nat.ble 30 i && Nat.ble i 36) || (Nat.ble 40 i && Nat.ble i 47) || (Nat.ble 50 i && Nat.ble i 57) || (Nat.ble 100 i && Nat.ble i 147) || (Nat.ble 200 i && Nat.ble i 247) || (Nat.ble 300 i && Nat.ble i 347)
def tau (x : Nat) : Nat := if x = 0 then 1 else if x = 69 then 2 else if x = 71 then 3 else if x = 70 then 4 else if x = 2 then 5 else if x = 3 then 6 else if x = 4 then 7 else if x = 1 then 36 else if x < 21 then (if x % 2 = 1 then 40 + (x - 5) / 2 else 50 + (x - 6) / 2) else if x < 69 then 300 + (x - 21) else if (x - 72) % 19 = 0 then 10 + (x - 72) / 19 else if (x - 72) % 19 = 1 then 30 + (x - 72) / 19 else if (x - 72) % 19 = 2 then 20 + (x - 72) / 19 else if (x - 72) % 19 % 2 = 1 then 100 + 8 * ((x - 72) / 19) + ((x - 72) % 19 - 3) / 2 else 200 + 8 * ((x - 72) / 19) + ((x - 72) % 19 - 4) / 2
theorem sg_tau : ∀ i, i < 348 → us i = true → tau (sg i) = i ∧ sg i < 186 := by decide +kernel
theorem us_lt {i : Nat} (h : us i = true) : i < 348 ∧ i ≠ 0 := by
  unfold us at h
  simp at h
  omega
theorem bound_w (w : Nat → Nat) : ∀ n, ∃ M, ∀ i, i < n → w i < M := by
  intro n
  induction n with
  | zero => exact ⟨0, fun i h => absurd h (Nat.not_lt_zero _)⟩
  | succ n ih =>
    obtain ⟨M, h⟩ := ih
    refine ⟨M + w n + 1, fun i hi => ?_⟩
    by_cases e : i = n
    · rw [e]; omega
    · have := h i (by omega); omega
def yW (a M : Nat) (w : Nat → Nat) : Nat → Nat := fun i => if i = 0 then a else if us i then w (sg i) else M + i
theorem yW_0 {a M : Nat} {w : Nat → Nat} : yW a M w 0 = a := rfl
theorem yW_u {a M i : Nat} {w : Nat → Nat} (h : us i = true) : yW a M w i = w (sg i) := by
  unfold yW
  rw [if_neg (us_lt h).2, if_pos h]
theorem yW_inj {a M : Nat} {w : Nat → Nat} (hw : ∀ i j, i < 186 → j < 186 → w i = w j → i = j) (ha : ∀ i, i < 186 → w i ≠ a) (hM : ∀ i, i < 186 → w i < M) (hM2 : a < M) : ∀ i j, yW a M w i = yW a M w j → i = j := by
  have key : ∀ i j, us i = true → us j = true → w (sg i) = w (sg j) → i = j := fun i j h1 h2 e => by
    have a1 := sg_tau i (us_lt h1).1 h1
    have a2 := sg_tau j (us_lt h2).1 h2
    have := hw _ _ a1.2 a2.2 e
    rw [← a1.1, ← a2.1, this]
  intro i j e
  by_cases i0 : i = 0
  · subst i0
    by_cases j0 : j = 0
    · exact j0.symm
    · by_cases u : us j = true
      · rw [yW_0, yW_u u] at e; exact absurd e.symm (ha _ (sg_tau j (us_lt u).1 u).2)
      · rw [yW_0] at e; unfold yW at e; rw [if_neg j0, if_neg u] at e; omega
  · by_cases u : us i = true
    · by_cases j0 : j = 0
      · subst j0; rw [yW_0, yW_u u] at e; exact absurd e (ha _ (sg_tau i (us_lt u).1 u).2)
      · by_cases v : us j = true
        · rw [yW_u u, yW_u v] at e; exact key i j u v e
        · rw [yW_u u] at e; unfold yW at e; rw [if_neg j0, if_neg v] at e
          have := hM _ (sg_tau i (us_lt u).1 u).2
          omega
    · by_cases j0 : j = 0
      · subst j0; rw [yW_0] at e; unfold yW at e; rw [if_neg i0, if_neg u] at e; omega
      · by_cases v : us j = true
        · rw [yW_u v] at e; unfold yW at e; rw [if_neg i0, if_neg u] at e
          have := hM _ (sg_tau j (us_lt v).1 v).2
          omega
        · unfold yW at e; rw [if_neg i0, if_neg u, if_neg j0, if_neg v] at e; omega
theorem sg10 : ∀ i, i < 6 → us (10 + i) = true ∧ sg (10 + i) = 72 + 19 * i ∧ us (20 + i) = true ∧ sg (20 + i) = 73 + 19 * i + 1 ∧ us (30 + i) = true ∧ sg (30 + i) = 73 + 19 * i + 0 := by decide +kernel
theorem sg40 : ∀ i, i < 8 → us (40 + i) = true ∧ sg (40 + i) = 1 + (4 + 2 * i) ∧ us (50 + i) = true ∧ sg (50 + i) = 1 + (5 + 2 * i) := by decide +kernel
theorem sg100 : ∀ i, i < 6 → ∀ k, k < 8 → us (100 + (8 * i + k)) = true ∧ sg (100 + (8 * i + k)) = 73 + 19 * i + (2 + 2 * k) ∧ us (200 + (8 * i + k)) = true ∧ sg (200 + (8 * i + k)) = 73 + 19 * i + (3 + 2 * k) := by decide +kernel
theorem sg300 : ∀ i, i < 48 → us (300 + i) = true ∧ sg (300 + i) = 1 + (20 + i) := by decide +kernel
/-! the first state -/
theorem gA_1 (g : MS) : ∀ m, (∀ j i, (gA g m).1 j i = if j = 2 ∧ i < m then 1000 else g.1 j i) ∧ (gA g m).2 = g.2 := by
  intro m
  induction m with
  | zero => exact ⟨fun j i => (if_neg (fun z => absurd z.2 (Nat.not_lt_zero _))).symm, rfl⟩
  | succ m ih =>
    refine ⟨fun j i => ?_, ih.2⟩
    rw [gA]
    by_cases e : j = 2
    · subst e
      by_cases z : i = m
      · subst z; rw [iI_s, if_pos ⟨rfl, Nat.lt_succ_self _⟩]
      · rw [iI_o z, ih.1]
        by_cases y : i < m
        · rw [if_pos ⟨rfl, y⟩, if_pos ⟨rfl, by omega⟩]
        · rw [if_neg (fun u => y u.2), if_neg (fun u => y (by omega))]
    · rw [iI_j e, ih.1, if_neg (fun u => e u.1), if_neg (fun u => e u.1)]
theorem gB_1 (g : MS) : ∀ m, (∀ j i, (gB g m).1 j i = if j = 13 ∧ i < m then -1 else if j = 19 ∧ i < m then 1 else g.1 j i) ∧ (gB g m).2 = g.2 := by
  intro m
  induction m with
  | zero => exact ⟨fun j i => by rw [if_neg (fun z => absurd z.2 (Nat.not_lt_zero _)), if_neg (fun z => absurd z.2 (Nat.not_lt_zero _))]; rfl, rfl⟩
  | succ m ih =>
    refine ⟨fun j i => ?_, ih.2⟩
    rw [gB]
    by_cases e : j = 13
    · subst e
      by_cases z : i = m
      · subst z; rw [iI_s, if_pos ⟨rfl, Nat.lt_succ_self _⟩]
      · rw [iI_o z, iI_j (by decide), ih.1]
        by_cases y : i < m
        · rw [if_pos ⟨rfl, y⟩, if_pos ⟨rfl, by omega⟩]
        · rw [if_neg (fun u => y u.2), if_neg (fun u => absurd u.1 (by decide)), if_neg (fun u => y (by omega)), if_neg (fun u => absurd u.1 (by decide))]
    · rw [iI_j e, if_neg (fun u => e u.1)]
      by_cases e2 : j = 19
      · subst e2
        by_cases z : i = m
        · subst z; rw [iI_s, if_pos ⟨rfl, Nat.lt_succ_self _⟩]
        · rw [iI_o z, ih.1, if_neg (fun u => absurd u.1 (by decide))]
          by_cases y : i < m
          · rw [if_pos ⟨rfl, y⟩, if_pos ⟨rfl, by omega⟩]
          · rw [if_neg (fun u => y u.2), if_neg (fun u => y (by omega))]
      · rw [iI_j e2, ih.1, if_neg (fun u => e u.1), if_neg (fun u => e2 u.1), if_neg (fun u => e2 u.1)]
theorem g0_1 (j i : Nat) : g0.1 j i = if j = 13 ∧ i < 48 then -1 else if j = 19 ∧ i < 48 then 1 else if j = 2 ∧ i < 7 then 1000 else 0 := by
  unfold g0
  rw [(gB_1 _ 48).1, (gA_1 _ 7).1]; rfl
theorem g0_2 : g0.2 = gZ.2 := by
  unfold g0
  rw [(gB_1 _ 48).2, (gA_1 _ 7).2]
theorem g0_z {j : Nat} (h : j ≠ 13 ∧ j ≠ 19 ∧ j ≠ 2) (i : Nat) : g0.1 j i = 0 := by
  rw [g0_1, if_neg (fun u => h.1 u.1), if_neg (fun u => h.2.1 u.1), if_neg (fun u => h.2.2 u.1)]
theorem g0_q : mqN g0 = 0 := by unfold mqN; rw [g0_2]; rfl
def cs0 (dE : Nat) : CS := (fun _ => dE, fun _ => 0, fun _ => 0, fun _ => [], fun _ => [], fun _ => 0)
theorem start_inv : GInv g0 0 (fun _ => 0) 0 0 := by
  have z9 : ∀ j, (j ≠ 13 ∧ j ≠ 19 ∧ j ≠ 2) → ∀ i, (g0.1 j i).toInt = 0 := fun j h i => by rw [g0_z h]; rfl
  have l5 : ∀ j i, (g0.2.1 j i).toInt = 0 := fun j i => by rw [g0_2]; rfl
  refine ⟨⟨Nat.zero_le _, by rw [g0_2]; rfl, ⟨fun k hk => ?_, fun h hh => absurd hh (Nat.not_lt_zero _)⟩, fun i hi => ?_, by rw [g0_2]; decide, fun i hi => ?_, ⟨fun k hk => ?_, fun h hh => absurd hh (Nat.not_lt_zero _)⟩⟩, ⟨⟨by rw [g0_q, g0_2]; rfl, by rw [g0_q]; omega⟩, fun q hq => by rw [g0_q] at hq; omega, fun h hh => absurd hh (Nat.not_lt_zero _), fun h h2 _ hh => absurd hh (Nat.not_lt_zero _), fun gt kk hg hk => Or.inl ?_⟩, ⟨fun h hh => absurd (g0_z (by decide) h) hh, fun i hi => ?_⟩⟩
  · rw [z9 3 (by decide), z9 4 (by decide), l5]; decide
  · rw [g0_1, if_neg (fun u => absurd u.1 (by decide)), if_pos ⟨rfl, hi⟩]; decide
  · rw [l5, g0_1, if_neg (fun u => absurd u.1 (by decide)), if_neg (fun u => absurd u.1 (by decide)), if_pos ⟨rfl, hi⟩]; decide
  · rw [l5, z9 4 (by decide)]; show (0 : Int) ≤ _; omega
  · rw [g0_1, if_pos ⟨rfl, by omega⟩]
  · rw [z9 23 (by decide), z9 25 (by decide)]; decide
theorem start_cr {S0 S : PS} {dE a : Nat} {w : Nat → Nat} (h : LgK S dE a w 6) (hN : NewW S0 S w 186) (ha : a ∈ pL S0) (hd : dE ∉ pL S) : ∃ y, y 0 = a ∧ (∀ i, us i = true → y i = w (sg i)) ∧ CR S y dE g0 (cs0 dE) ∧ CanB (cs0 dE) g0 0 ∧ CanH (cs0 dE) g0 0 := by
  obtain ⟨M, hM⟩ := bound_w w 186
  have inj := yW_inj (a := a) (M := M + a + 1) (w := w) hN.2 (fun i hi e => (hN.1 i hi).1 (by rw [e]; exact ha)) (fun i hi => by have := hM i hi; omega) (by omega)
  have y0 : yW a (M + a + 1) w 0 = a := rfl
  have yu : ∀ i, us i = true → yW a (M + a + 1) w i = w (sg i) := fun i hi => yW_u hi
  generalize yW a (M + a + 1) w = y at inj y0 yu
  have y1 : y 1 = w 0 := yu 1 rfl
  have y2 : y 2 = w 69 := yu 2 rfl
  have y3 : y 3 = w 71 := yu 3 rfl
  have y4 : y 4 = w 70 := yu 4 rfl
  have y5 : y 5 = w (1 + 1) := yu 5 rfl
  have y6 : y 6 = w (1 + 2) := yu 6 rfl
  have y7 : y 7 = w (1 + 3) := yu 7 rfl
  have y36 : y (30 + 6) = w (1 + 0) := yu 36 rfl
  have y10 : ∀ i, i < 6 → y (10 + i) = w (72 + 19 * i) := fun i hi => (yu _ (sg10 i hi).1).trans (congrArg w (sg10 i hi).2.1)
  have y20 : ∀ i, i < 6 → y (20 + i) = w (73 + 19 * i + 1) := fun i hi => (yu _ (sg10 i hi).2.2.1).trans (congrArg w (sg10 i hi).2.2.2.1)
  have y30 : ∀ i, i < 6 → y (30 + i) = w (73 + 19 * i + 0) := fun i hi => (yu _ (sg10 i hi).2.2.2.2.1).trans (congrArg w (sg10 i hi).2.2.2.2.2)
  have y40 : ∀ i, i < 8 → y (40 + i) = w (1 + (4 + 2 * i)) := fun i hi => (yu _ (sg40 i hi).1).trans (congrArg w (sg40 i hi).2.1)
  have y50 : ∀ i, i < 8 → y (50 + i) = w (1 + (5 + 2 * i)) := fun i hi => (yu _ (sg40 i hi).2.2.1).trans (congrArg w (sg40 i hi).2.2.2)
  have y100 : ∀ i k, i < 6 → k < 8 → y (100 + (8 * i + k)) = w (73 + 19 * i + (2 + 2 * k)) := fun i k hi hk => (yu _ (sg100 i hi k hk).1).trans (congrArg w (sg100 i hi k hk).2.1)
  have y200 : ∀ i k, i < 6 → k < 8 → y (200 + (8 * i + k)) = w (73 + 19 * i + (3 + 2 * k)) := fun i k hi hk => (yu _ (sg100 i hi k hk).2.2.1).trans (congrArg w (sg100 i hi k hk).2.2.2)
  have y300 : ∀ i, i < 48 → y (300 + i) = w (1 + (20 + i)) := fun i hi => (yu _ (sg300 i hi).1).trans (congrArg w (sg300 i hi).2)
  obtain ⟨k0, ⟨k1, ⟨⟨r0, r1, r2⟩, ⟨r3, r4⟩, ⟨r5, r6, r7⟩, ⟨r8, r9, r10⟩, ⟨r11, r12, r13, r14⟩, r15, r16⟩⟩, ⟨p1, p2, p3, p4, p5, p6⟩, ⟨g1, g2, g3⟩, gg⟩ := h
  have d48 : ∀ i, i < 48 → ∃ x k, x < 6 ∧ k < 8 ∧ i = 8 * x + k := fun i hi => ⟨i / 8, i % 8, by omega, by omega, by omega⟩
  have DD : ∀ i k, i < 6 → k < 8 → DkA S dE (y (100 + (8 * i + k))) (y (200 + (8 * i + k))) (nI i) (nI k) := fun i k hi hk => by
    rw [y100 i k hi hk, y200 i k hi hk]; exact ((gg i hi).2.2.2.2.2.2.2.2 k hk).2
  have D48 : ∀ i, i < 48 → ∃ x1 x2, DkA S dE (y (100 + i)) (y (200 + i)) x1 x2 := fun i hi => by
    obtain ⟨x, k, hx, hk, rfl⟩ := d48 i hi
    exact ⟨_, _, DD x k hx hk⟩
  have BB : ∀ i, i < 8 → BkA S dE (y (40 + i)) (y (50 + i)) := fun i hi => by rw [y40 i hi, y50 i hi]; exact (r15 i hi).2
  have AA : ∀ i, i < 48 → AcA S (y (300 + i)) := fun i hi => by rw [y300 i hi]; exact (r16 i hi).2
  have TT : ∀ i, i < 7 → TkA S (y (30 + i)) := fun i hi => by
    by_cases e : i = 6
    · subst e; rw [y36]; exact r4
    · rw [y30 i (by omega)]; exact (gg i (by omega)).2.2.2.2.1
  have L : Lay S y := by
    refine ⟨by rw [y0]; exact k0, by rw [y1]; exact r0, by rw [y2]; exact p2, by rw [y3]; exact g2, by rw [y4]; exact p5, by rw [y5]; exact r6, by rw [y6]; exact r9, by rw [y7]; exact r12, by rw [y3]; exact g3, by rw [y4]; exact p6, by rw [y5]; exact r7, by rw [y6]; exact r10, by rw [y7]; exact r13, by rw [y0, y1]; exact k1, by rw [y0, y3]; exact g1, by rw [y0, y2]; exact p1, by rw [y2, y4]; exact p3, by rw [y1, y36]; exact r3, by rw [y1, y5]; exact r5, by rw [y1, y6]; exact r8, by rw [y1, y7]; exact r11, ?_, ?_, ?_, ?_, ?_, ?_, ?_, fun i hi => (TT i hi).1, fun i hi => (BB i hi).1, ?_, fun i hi => (BB i hi).2.1, fun i hi => (D48 i hi).elim (fun _ z => z.elim (fun _ z => z.1)), fun i hi => (D48 i hi).elim (fun _ z => z.elim (fun _ z => z.2.2.2.1)), fun i hi => (AA i hi).1, ?_, fun i k hi hk => (DD i k hi hk).2.1, fun i k hi hk => (DD i k hi hk).2.2.1, inj⟩
    · intro i hi; rw [y10 i hi]; exact (gg i hi).2.1
    · intro i hi; rw [y3, y10 i hi]; exact (gg i hi).1
    · intro i hi; rw [y10 i hi, y30 i hi]; exact (gg i hi).2.2.2.1
    · intro i hi; rw [y10 i hi, y20 i hi]; exact (gg i hi).2.2.2.2.2.1
    · intro i hi; rw [y20 i hi]; exact (gg i hi).2.2.2.2.2.2.1
    · intro i hi; rw [y20 i hi]; exact (gg i hi).2.2.2.2.2.2.2.1
    · intro i k hi hk; rw [y20 i hi, y100 i k hi hk]; exact ((gg i hi).2.2.2.2.2.2.2.2 k hk).1
    · intro i hi; rw [y5, y40 i hi]; exact (r15 i hi).1
    · intro i hi; rw [y6, y300 i hi]; exact (r16 i hi).1
  refine ⟨y, y0, yu, ⟨⟨L, ?_, ?_, ?_, ?_, ?_, ?_, ?_, ?_, ?_, ?_, ?_, ?_, ?_, ?_, ?_, ?_, ?_, ?_, ?_, ?_, ?_, ?_, ?_, ?_, ?_⟩, ⟨?_, ?_, fun i j _ _ _ => Or.inr rfl, hd⟩⟩, ?_, ?_⟩
  · intro i hi; rw [(TT i hi).2.1, g0_2]; rfl
  · intro i hi; rw [(TT i hi).2.2, g0_1, if_neg (fun u => absurd u.1 (by decide)), if_neg (fun u => absurd u.1 (by decide)), if_pos ⟨rfl, hi⟩]
  · intro i hi; rw [y10 i hi, (gg i hi).2.2.1, g0_z (by decide)]
  · intro i hi; rw [y7, r14, g0_z (by decide)]
  · rw [y1, r1, g0_2]; rfl
  · rw [y1, r2, g0_2]; rfl
  · intro i hi; rw [(BB i hi).2.2.1, g0_z (by decide)]
  · intro i hi; rw [(BB i hi).2.2.2.1, g0_z (by decide)]
  · intro i hi; rw [(BB i hi).2.2.2.2.1, g0_2]; rfl
  · intro i hi; exact (BB i hi).2.2.2.2.2.1
  · intro i hi; rw [(BB i hi).2.2.2.2.2.2.1, g0_z (by decide)]
  · intro i hi; obtain ⟨_, _, z⟩ := D48 i hi; rw [z.2.2.2.2.1, g0_z (by decide)]
  · intro i hi; obtain ⟨_, _, z⟩ := D48 i hi; rw [z.2.2.2.2.2.1, g0_z (by decide)]
  · intro i hi; obtain ⟨_, _, z⟩ := D48 i hi; rw [z.2.2.2.2.2.2.1, g0_z (by decide)]
  · intro i hi; obtain ⟨_, _, z⟩ := D48 i hi; rw [z.2.2.2.2.2.2.2.1, g0_z (by decide)]
  · intro i hi; obtain ⟨_, _, z⟩ := D48 i hi; rw [z.2.2.2.2.2.2.2.2.1, g0_z (by decide)]
  · intro i hi; obtain ⟨_, _, z⟩ := D48 i hi; rw [z.2.2.2.2.2.2.2.2.2.1, g0_z (by decide)]
  · intro i hi; rw [(AA i hi).2.1, g0_1, if_neg (fun u => absurd u.1 (by decide)), if_pos ⟨rfl, hi⟩]
  · intro i hi; rw [(AA i hi).2.2.1, g0_z (by decide)]
  · intro i hi; rw [(AA i hi).2.2.2.1, g0_z (by decide)]
  · intro i k hi hk; exact Or.inl ⟨by rw [g0_1, if_pos ⟨rfl, by omega⟩], (AA (8 * i + k) (by omega)).2.2.2.2⟩
  · rw [y2, p4, g0_2]; rfl
  · intro q hq; rw [g0_q] at hq; omega
  · intro i hi x hx; exact absurd hx (List.not_mem_nil)
  · intro i hi x hx; exact absurd hx (List.not_mem_nil)
  · intro i hi; obtain ⟨_, _, z⟩ := D48 i hi; exact z.2.2.2.2.2.2.2.2.2.2
  · intro i hi; exact (BB i hi).2.2.2.2.2.2.2
  · intro k hk; exact ⟨rfl, rfl⟩
  · intro i k hi hk; rfl
