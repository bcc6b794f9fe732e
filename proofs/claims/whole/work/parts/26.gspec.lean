/-! all desks at once -/
def CanH (c : CS) (g : MS) (n : Nat) : Prop := ∀ i k, i < 6 → k < 8 → cP c (8 * i + k) = hs g i k n
theorem CanH.desk {c c2 : CS} {g g2 : MS} {n gt kk : Nat} (h : CanH c g n) (hk : kk < 8) (hD : CsD c c2 (8 * gt + kk) (hs g2 gt kk n)) (ho : ∀ i k, i < 6 → k < 8 → ¬ (i = gt ∧ k = kk) → hs g2 i k n = hs g i k n) : CanH c2 g2 n := by
  intro i k hi hk2
  by_cases e : i = gt ∧ k = kk
  · obtain ⟨e1, e2⟩ := e
    subst e1; subst e2; exact hD.1
  · rw [hD.2.1 _ (by omega), ho i k hi hk2 e]; exact h i k hi hk2
/-- whose holds change: only those of that gate and key -/
theorem hs_away {g g2 : MS} {gt kk n i k : Nat} (hn : n ≤ 300) (hg : gt < 6) (hk : kk < 8) (hi : i < 6) (hk2 : k < 8) (he : ¬ (i = gt ∧ k = kk)) (h8 : g2.1 8 = g.1 8) (h27 : ∀ x, g2.1 27 x = g.1 27 x ∨ (g2.1 27 x = 0 ∧ mHold g gt kk x)) : hs g2 i k n = hs g i k n := by
  refine fil_congr (fun x hx => ?_)
  unfold mHold
  rw [h8]
  rcases h27 x with z | ⟨z, z2⟩
  · rw [z]
  · rw [z]
    refine ⟨fun q => absurd q.1.symm (nI_ne0 (by omega) (by omega)), fun q => absurd ?_ he⟩
    have a := nI_ij (q.1.symm.trans z2.1) (by omega) (by omega)
    have b := nI_ij (q.2.symm.trans z2.2) (by omega) (by omega)
    omega
theorem mGB_27 (g : MS) (gt kk n x : Nat) : (mGB g gt kk n).1.1 27 x = g.1 27 x ∨ ((mGB g gt kk n).1.1 27 x = 0 ∧ mHold g gt kk x) := by
  rw [mGB_hs, gbFold_27]
  by_cases z : x ∈ hs g gt kk n ∧ ¬ (mLive g gt x ∧ ¬ mSpan g x ≤ 2 * mAge g gt x)
  · rw [if_pos z]; exact Or.inr ⟨rfl, (mem_fil.mp z.1).2⟩
  · rw [if_neg z]; exact Or.inl rfl
theorem mWorkE_fst (q : MS × Int32) (z z2 : Int32) (gt k n : Nat) : (mWorkE q z gt k n).1 = (mWorkE q z2 gt k n).1 := by
  unfold mWorkE
  split <;> rfl
theorem mWorkN_fst (g : MS) (gt n k : Nat) : (mWorkN g gt n (k + 1)).1 = (mWorkE (mGB (mWorkN g gt n k).1 gt k n) 0 gt k n).1 := mWorkE_fst _ _ _ _ _ _
theorem hs_work {g : MS} {gt kk n i k : Nat} (z : Int32) (hn : n ≤ 300) (hg : gt < 6) (hk : kk < 8) (hi : i < 6) (hk2 : k < 8) (he : ¬ (i = gt ∧ k = kk)) : hs (mWorkE (mGB g gt kk n) z gt kk n).1 i k n = hs g i k n := by
  refine hs_away hn hg hk hi hk2 he ?_ (fun x => ?_)
  · rw [mWorkE_27 _ _ _ _ _ (by decide), mGB_hs]; exact (gbFold_I gt kk _ g).1 8 (by decide) (by decide) (by decide)
  · rw [mWorkE_27 _ _ _ _ _ (by decide)]; exact mGB_27 g gt kk n x
/-- how many holds a gate has, over the first m keys -/
def hsum (g : MS) (gt n : Nat) : Nat → Nat
  | 0 => 0
  | m + 1 => hsum g gt n m + (hs g gt m n).length
theorem hsum_step (g : MS) (gt n : Nat) : ∀ m, m ≤ 8 → hsum g gt (n + 1) m ≤ hsum g gt n m + 1 ∧ (hsum g gt (n + 1) m = hsum g gt n m ∨ ∃ k, k < m ∧ g.1 8 n = nI k) := by
  intro m
  induction m with
  | zero => intro _; exact ⟨Nat.zero_le _, Or.inl rfl⟩
  | succ m ih =>
    intro hm
    obtain ⟨a, b⟩ := ih (by omega)
    have e : (hs g gt m (n + 1)).length = (hs g gt m n).length + if mHold g gt m n then 1 else 0 := by
      unfold hs
      rw [fil_succ]
      split
      · rw [List.length_append]; rfl
      · rfl
    have r1 : hsum g gt (n + 1) (m + 1) = hsum g gt (n + 1) m + (hs g gt m (n + 1)).length := rfl
    have r2 : hsum g gt n (m + 1) = hsum g gt n m + (hs g gt m n).length := rfl
    rw [r1, r2, e]
    by_cases z : mHold g gt m n
    · rw [if_pos z]
      rcases b with b | ⟨k, h1, h2⟩
      · exact ⟨by omega, Or.inr ⟨m, by omega, z.2⟩⟩
      · exact absurd (nI_ij (h2.symm.trans z.2) (by omega) (by omega)) (by omega)
    · rw [if_neg z]
      refine ⟨by omega, ?_⟩
      rcases b with b | ⟨k, h1, h2⟩
      · exact Or.inl (by omega)
      · exact Or.inr ⟨k, by omega, h2⟩
theorem hsum_le (g : MS) (gt n m : Nat) (hm : m ≤ 8) : hsum g gt n m ≤ n := by
  induction n with
  | zero =>
    have : ∀ m, hsum g gt 0 m = 0 := by
      intro m
      induction m with
      | zero => rfl
      | succ m ih => show hsum g gt 0 m + (hs g gt m 0).length = 0; rw [ih]; rfl
    rw [this]; exact Nat.le_refl _
  | succ n ih => have := (hsum_step g gt n m hm).1; omega
theorem hsum_mono (g : MS) (gt n m : Nat) : hsum g gt n m ≤ hsum g gt n (m + 1) := Nat.le_add_right _ _
/-- a later desk's list is as it was when the work began -/
theorem hs_workN {g : MS} {gt n : Nat} (hn : n ≤ 300) (hg : gt < 6) : ∀ m, m ≤ 8 → ∀ i k, i < 6 → k < 8 → (i ≠ gt ∨ m ≤ k) → hs (mWorkN g gt n m).1 i k n = hs g i k n := by
  intro m
  induction m with
  | zero => intro _ i k _ _ _; rfl
  | succ m ih =>
    intro hm i k hi hk h
    rw [mWorkN_fst, hs_work 0 hn hg (by omega) hi hk (by omega)]
    exact ih (by omega) i k hi hk (by omega)
theorem CR.eq {S : PS} {y : Nat → Nat} {dE : Nat} {g g2 : MS} {c : CS} (h : CR S y dE g c) (e : g2 = g) : CR S y dE g2 c := by rw [e]; exact h
theorem MS_ext {g g2 : MS} (h1 : ∀ j i, g2.1 j i = g.1 j i) (h2 : ∀ j i, g2.2.1 j i = g.2.1 j i) (h3 : ∀ f, g2.2.2 f = g.2.2 f) : g2 = g := Prod.ext (funext fun j => funext fun i => h1 j i) (Prod.ext (funext fun j => funext fun i => h2 j i) (funext h3))
