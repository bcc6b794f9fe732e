theorem kPassD_j (n k : Nat) (to : Int32) : ∀ d g at_, (∀ j, j ≠ 9 → (kPassD n k to d g at_).1 j = g.1 j) ∧ (∀ j, j ≠ 5 → (kPassD n k to d g at_).2.1 j = g.2.1 j) ∧ (kPassD n k to d g at_).2.2 = g.2.2 ∧ (∀ h, (kPassD n k to d g at_).1 9 h = g.1 9 h ∨ (kPassD n k to d g at_).1 9 h = 0) ∧ ∀ i, i ≠ k → (kPassD n k to d g at_).2.1 5 i = g.2.1 5 i := by
  intro d
  have base : ∀ (g : MS) (x : Int64), (∀ j, j ≠ 9 → (kFill g n k x).1 j = g.1 j) ∧ (∀ j, j ≠ 5 → (kFill g n k x).2.1 j = g.2.1 j) ∧ (kFill g n k x).2.2 = g.2.2 ∧ (∀ h, (kFill g n k x).1 9 h = g.1 9 h ∨ (kFill g n k x).1 9 h = 0) ∧ ∀ i, i ≠ k → (kFill g n k x).2.1 5 i = g.2.1 5 i := fun g x => ⟨fun _ _ => rfl, fun j hj => va_up_ne _ _ hj, rfl, fun _ => Or.inl rfl, fun i hi => iL_o hi⟩
  induction d with
  | zero => intro g at_; exact base g _
  | succ d ih =>
    intro g at_
    rw [kPassD]
    split
    · exact base g _
    · obtain ⟨a1, a2, a3, a4, a5⟩ := ih (iI (kFill g n k ((g.1 3 k).toInt64 * (g.1 10 (eH g (lsB g k n)) - 1 - at_).toInt64)) 9 (eH g (lsB g k n)) 0) (g.1 10 (eH g (lsB g k n)) - 1)
      refine ⟨fun j hj => (a1 j hj).trans (iI_j hj), fun j hj => (a2 j hj).trans (va_up_ne _ _ hj), a3, fun h => ?_, fun i hi => (a5 i hi).trans (iL_o hi)⟩
      rcases a4 h with z | z
      · rw [iI9] at z
        by_cases e : h = eH g (lsB g k n)
        · rw [if_pos e] at z; exact Or.inr z
        · rw [if_neg e] at z; exact Or.inl z
      · exact Or.inr z
theorem kPassD_I {n k : Nat} {to : Int32} (hn : n ≤ 300) (hk : k < 8) : ∀ d g at_, BInv g n → BInv (kPassD n k to d g at_) n := by
  intro d
  induction d with
  | zero => intro g at_ h; exact h.fill hn hk
  | succ d ih =>
    intro g at_ h
    rw [kPassD]
    split
    · exact h.fill hn hk
    · exact ih _ _ (h.fill hn hk).z9
/-- all buckets, one after another -/
def kPs (g : MS) (n : Nat) (tm to : Int32) : Nat → MS
  | 0 => g
  | k + 1 => kPass (kPs g n tm to k) n k tm to
theorem kPs_I {g : MS} {n : Nat} {tm to : Int32} (hn : n ≤ 300) (h : BInv g n) : ∀ m, m ≤ 8 → BInv (kPs g n tm to m) n := by
  intro m
  induction m with
  | zero => intro _; exact h
  | succ m ih => intro hm; exact kPassD_I hn (by omega) _ _ _ (ih (by omega))
theorem kPs_j (g : MS) (n : Nat) (tm to : Int32) : ∀ m, (∀ j, j ≠ 9 → (kPs g n tm to m).1 j = g.1 j) ∧ (∀ j, j ≠ 5 → (kPs g n tm to m).2.1 j = g.2.1 j) ∧ (kPs g n tm to m).2.2 = g.2.2 ∧ (∀ h, (kPs g n tm to m).1 9 h = g.1 9 h ∨ (kPs g n tm to m).1 9 h = 0) ∧ ∀ i, m ≤ i → (kPs g n tm to m).2.1 5 i = g.2.1 5 i := by
  intro m
  induction m with
  | zero => exact ⟨fun _ _ => rfl, fun _ _ => rfl, rfl, fun _ => Or.inl rfl, fun _ _ => rfl⟩
  | succ m ih =>
    obtain ⟨a1, a2, a3, a4, a5⟩ := ih
    obtain ⟨b1, b2, b3, b4, b5⟩ := kPassD_j n m to (lsB (kPs g n tm to m) m n).length (kPs g n tm to m) tm
    refine ⟨fun j hj => (b1 j hj).trans (a1 j hj), fun j hj => (b2 j hj).trans (a2 j hj), b3.trans a3, fun h => ?_, fun i hi => (b5 i (by omega)).trans (a5 i (by omega))⟩
    rcases b4 h with z | z
    · rcases a4 h with u | u
      · exact Or.inl (z.trans u)
      · exact Or.inr (z.trans u)
    · exact Or.inr z
theorem kPs_end {g : MS} {n : Nat} {tm to : Int32} (h : ∀ k, k < 8 → ∀ x, x ∈ lsB g k n → tm.toInt < (g.1 10 x).toInt) (m k : Nat) (hk : k < 8) : ∀ x, x ∈ lsB (kPs g n tm to m) k n → tm.toInt < ((kPs g n tm to m).1 10 x).toInt := by
  intro x hx
  obtain ⟨a1, a2, a3, a4, a5⟩ := kPs_j g n tm to m
  have hx2 := mem_fil.mp hx
  rw [a1 10 (by decide)]
  refine h k hk x (mem_fil.mpr ⟨hx2.1, by have := hx2.2.1; rw [a1 8 (by decide)] at this; exact this, fun z => hx2.2.2 ?_⟩)
  rcases a4 x with u | u
  · exact u.trans z
  · exact u
theorem mRet_kBring (g : MS) (n gt : Nat) (tok birth : Int32) (h kk : Nat) : mRet g n gt tok birth h kk = if birth < g.1 12 gt then (g, 0) else kBring g n kk h tok := by
  unfold mRet kBring
  by_cases a : birth < g.1 12 gt
  · rw [if_pos a, if_pos (Or.inl a)]
  · rw [if_neg a]
    by_cases b : g.1 9 h = 0
    · rw [if_pos b, if_pos (Or.inr b)]
    · rw [if_neg b, if_neg (fun z => z.elim a b)]; rfl
theorem kBring_z (g : MS) (n k h : Nat) (tok : Int32) : (kBring g n k h tok).2 = 0 ∨ (kBring g n k h tok).2 = 1 := by
  unfold kBring
  split
  · exact Or.inl rfl
  · exact Or.inr rfl
theorem mPostIf_j (g : MS) (x0 x1 x2 x3 x4 x5 x6 x7 : Int32) {j : Nat} (h1 : j ≠ 32) (h2 : j ≠ 33) : (mPostIf g x0 x1 x2 x3 x4 x5 x6 x7).1 j = g.1 j := by
  unfold mPostIf
  split
  · rfl
  · show (iI (iI (iI (iI (iI (iI (iI (iI (iI g 32 (8 * mqN g) x0) 32 (8 * mqN g + 1) x1) 32 (8 * mqN g + 2) x2) 32 (8 * mqN g + 3) x3) 32 (8 * mqN g + 4) x4) 32 (8 * mqN g + 5) x5) 32 (8 * mqN g + 6) x6) 32 (8 * mqN g + 7) x7) 33 (mqN g) 1).1 j = _
    rw [iI_j h2, iI_j h1, iI_j h1, iI_j h1, iI_j h1, iI_j h1, iI_j h1, iI_j h1, iI_j h1]
theorem mPostIf_f (g : MS) (x0 x1 x2 x3 x4 x5 x6 x7 : Int32) {f : Nat} (h : f ≠ 1131) : (mPostIf g x0 x1 x2 x3 x4 x5 x6 x7).2.2 f = g.2.2 f := by
  unfold mPostIf
  split
  · rfl
  · exact va_up_ne _ _ h
theorem kAns_1107 {g : MS} {n gt kk : Nat} {gets : Int32} (h : g.2.2 1107 = nI n) : (kAns g n gt kk gets).2.2 1107 = nI (kN n gets) := by
  unfold kAns kN
  split
  · exact iF_s
  · exact h
theorem kAns_12 (g : MS) (n gt kk : Nat) (gets : Int32) : (kAns g n gt kk gets).1 12 = g.1 12 := by
  unfold kAns
  split <;> rfl
theorem mAsks_a {g : MS} {n gt kk : Nat} {tok birth count : Int32} (h : birth < g.1 12 gt) : mAsks g n gt kk tok birth count = (g, 0) := if_pos h
/-- how many loans there are behind the ask -/
def mN (g : MS) (n gt kk : Nat) (tok birth count : Int32) : Nat := if mNew g gt kk birth count then kN n (mGets (mHear g gt birth) gt kk tok) else n
theorem mHear_12 {g : MS} {gt : Nat} {b : Int32} (h : ¬ b < g.1 12 gt) : (mHear g gt b).1 12 gt = b := by
  unfold mHear
  by_cases z : g.1 12 gt < b
  · rw [if_pos z, mForget_j _ _ (by decide)]; exact iI_s
  · rw [if_neg z]; exact Int32.le_antisymm (Int32.not_lt.mp h) (Int32.not_lt.mp z)
theorem mN_o {g : MS} {n gt kk : Nat} {tok birth count : Int32} (h : ¬ mNew g gt kk birth count) : mN g n gt kk tok birth count = n := if_neg h
theorem mN_y {g : MS} {n gt kk : Nat} {tok birth count : Int32} (h : mNew g gt kk birth count) : mN g n gt kk tok birth count = kN n (mGets (mHear g gt birth) gt kk tok) := if_pos h
/-! an ask: what its roads end with -/
theorem ax_w {g : MS} {n gt kk : Nat} {tok count : Int32} (h : 0 ≤ (mGets g gt kk tok).toInt) : (mAnswer g n gt kk tok count).1 15 (8 * gt + kk) = mGets g gt kk tok ∧ (mAnswer g n gt kk tok count).1 13 (8 * gt + kk) = count ∧ (mAnswer g n gt kk tok count).1 14 (8 * gt + kk) = kNum n (mGets g gt kk tok) ∧ (mAnswer g n gt kk tok count).1 16 (8 * gt + kk) = g.2.2 1111 ∧ (mAnswer g n gt kk tok count).1 12 = g.1 12 ∧ (mAnswer g n gt kk tok count).1 8 = (kAns g n gt kk (mGets g gt kk tok)).1 8 ∧ (mAnswer g n gt kk tok count).1 9 = (kAns g n gt kk (mGets g gt kk tok)).1 9 := by
  unfold mAnswer
  rw [answer_same h]
  generalize mGets g gt kk tok = gets
  have k12 := kAns_12 g n gt kk gets
  generalize kAns g n gt kk gets = q at k12 ⊢
  refine ⟨by simp [iI, va_up], by simp [iI, va_up], by simp [iI, va_up], by simp [iI, va_up], ?_, ?_, ?_⟩
  · rw [iI_j (by decide), iI_j (by decide), iI_j (by decide), iI_j (by decide)]; exact k12
  · rw [iI_j (by decide), iI_j (by decide), iI_j (by decide), iI_j (by decide)]
  · rw [iI_j (by decide), iI_j (by decide), iI_j (by decide), iI_j (by decide)]
theorem ans_cr {S : PS} {y : Nat → Nat} {dE : Nat} {c : CS} {g : MS} {n gt kk : Nat} {tok count : Int32} (h : 0 ≤ (mGets g gt kk tok).toInt) (hC : CR S y dE (iI (iI (iI (iI (kAns g n gt kk (mGets g gt kk tok)) 13 (8 * gt + kk) count) 15 (8 * gt + kk) (mGets g gt kk tok)) 16 (8 * gt + kk) (g.2.2 1111)) 14 (8 * gt + kk) (kNum n (mGets g gt kk tok))) c) : CR S y dE (mAnswer g n gt kk tok count) c := by
  rw [mAnswer, answer_same h]; exact hC
theorem sg_put {S : PS} {y : Nat → Nat} {dE : Nat} {c : CS} {g : MS} {n gt kk : Nat} {tok count b : Int32} (h : 0 ≤ (mGets g gt kk tok).toInt) (h12 : g.1 12 gt = b) (hC : CR S y dE (mPostIf (mAnswer g n gt kk tok count) 1 (nI gt) (nI kk) (mGets g gt kk tok) b count (kNum n (mGets g gt kk tok)) (g.2.2 1111)) c) : CR S y dE (mSG (mAnswer g n gt kk tok count) gt kk) c := by
  obtain ⟨w15, w13, w14, w16, w12, -, -⟩ := ax_w (n := n) (count := count) h
  rw [mSG_if, w15, w13, w14, w16, w12, h12]; exact hC
theorem mSG_89 (g : MS) (gt kk : Nat) : (mSG g gt kk).1 8 = g.1 8 ∧ (mSG g gt kk).1 9 = g.1 9 := by
  rw [mSG_if, mPostIf_j _ _ _ _ _ _ _ _ _ (by decide) (by decide), mPostIf_j _ _ _ _ _ _ _ _ _ (by decide) (by decide)]; exact ⟨rfl, rfl⟩
theorem ask_put {S : PS} {y : Nat → Nat} {dE : Nat} {c : CS} {g : MS} {n gt kk : Nat} {tok birth count : Int32} (h1 : ¬ birth < g.1 12 gt) (h2 : (mHear g gt birth).1 13 (8 * gt + kk) < count) (h : 0 ≤ (mGets (mHear g gt birth) gt kk tok).toInt) (hC : CR S y dE (mSG (mAnswer (mHear g gt birth) n gt kk tok count) gt kk) c) (hB : CanB c (kAns (mHear g gt birth) n gt kk (mGets (mHear g gt birth) gt kk tok)) (kN n (mGets (mHear g gt birth) gt kk tok))) : CR S y dE (mAsks g n gt kk tok birth count).1 c ∧ CanB c (mAsks g n gt kk tok birth count).1 (mN g n gt kk tok birth count) ∧ (mAsks g n gt kk tok birth count).2 = 1 := by
  have e := mAsks_n (n := n) (tok := tok) h1 (mAsk2_c (g := mHear g gt birth) (n := n) (gt := gt) (kk := kk) (tok := tok) (fun z => absurd z (Int32.not_lt.mpr (Int32.le_of_lt h2))) h2)
  obtain ⟨-, -, -, -, -, w8, w9⟩ := ax_w (n := n) (count := count) h
  obtain ⟨s8, s9⟩ := mSG_89 (mAnswer (mHear g gt birth) n gt kk tok count) gt kk
  rw [e, mN_y ⟨h1, h2⟩]
  dsimp only
  exact ⟨hC, hB.same (s8.trans w8) (s9.trans w9), rfl⟩
theorem ask_low {S : PS} {y : Nat → Nat} {dE : Nat} {c : CS} {g : MS} {n gt kk : Nat} {tok birth count : Int32} (h1 : ¬ birth < g.1 12 gt) (h2 : count < (mHear g gt birth).1 13 (8 * gt + kk)) (hC : CR S y dE (mHear g gt birth) c) (hB : CanB c (mHear g gt birth) n) : CR S y dE (mAsks g n gt kk tok birth count).1 c ∧ CanB c (mAsks g n gt kk tok birth count).1 (mN g n gt kk tok birth count) ∧ (mAsks g n gt kk tok birth count).2 = 0 := by
  have e := mAsks_n (n := n) (tok := tok) h1 (mAsk2_a (g := mHear g gt birth) (n := n) (gt := gt) (kk := kk) (tok := tok) h2)
  rw [e, mN_o (fun z => absurd z.2 (Int32.not_lt.mpr (Int32.le_of_lt h2)))]
  dsimp only
  exact ⟨hC, hB, rfl⟩
theorem ask_re {S : PS} {y : Nat → Nat} {dE : Nat} {c : CS} {g : MS} {n gt kk : Nat} {tok birth count : Int32} (h1 : ¬ birth < g.1 12 gt) (h2 : ¬ count < (mHear g gt birth).1 13 (8 * gt + kk)) (h3 : ¬ (mHear g gt birth).1 13 (8 * gt + kk) < count) (hC : CR S y dE (mSG (mHear g gt birth) gt kk) c) (hB : CanB c (mHear g gt birth) n) : CR S y dE (mAsks g n gt kk tok birth count).1 c ∧ CanB c (mAsks g n gt kk tok birth count).1 (mN g n gt kk tok birth count) ∧ (mAsks g n gt kk tok birth count).2 = 1 := by
  have e := mAsks_n (n := n) (tok := tok) h1 (mAsk2_b (g := mHear g gt birth) (n := n) (gt := gt) (kk := kk) (tok := tok) h2 h3)
  obtain ⟨s8, s9⟩ := mSG_89 (mHear g gt birth) gt kk
  rw [e, mN_o (fun z => h3 z.2)]
  dsimp only
  exact ⟨hC, hB.same s8 s9, rfl⟩
