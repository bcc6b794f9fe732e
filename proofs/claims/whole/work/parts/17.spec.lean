/-! lists of loan numbers: those below n with a property, in their order -/
def fil (p : Nat → Prop) [DecidablePred p] (n : Nat) : List Nat := (List.range n).filter (fun h => decide (p h))
theorem fil_0 (p : Nat → Prop) [DecidablePred p] : fil p 0 = [] := rfl
theorem fil_succ (p : Nat → Prop) [DecidablePred p] (n : Nat) : fil p (n + 1) = if p n then fil p n ++ [n] else fil p n := by
  unfold fil
  rw [List.range_succ, List.filter_append]
  by_cases h : p n
  · rw [if_pos h]; simp [h]
  · rw [if_neg h]; simp [h]
theorem mem_fil {p : Nat → Prop} [DecidablePred p] {n h : Nat} : h ∈ fil p n ↔ h < n ∧ p h := by
  unfold fil
  rw [List.mem_filter, List.mem_range]
  simp
theorem fil_len (p : Nat → Prop) [DecidablePred p] (n : Nat) : (fil p n).length ≤ n := by
  have := List.length_filter_le (fun h => decide (p h)) (List.range n)
  rw [List.length_range] at this
  exact this
theorem fil_nodup (p : Nat → Prop) [DecidablePred p] (n : Nat) : (fil p n).Nodup := by
  induction n with
  | zero => exact List.nodup_nil
  | succ n ih =>
    rw [fil_succ]
    split
    · rw [List.nodup_append]
      refine ⟨ih, by simp, fun a ha b hb e => ?_⟩
      rw [List.mem_singleton] at hb
      have := (mem_fil.mp ha).1
      omega
    · exact ih
theorem fil_congr {p q : Nat → Prop} [DecidablePred p] [DecidablePred q] {n : Nat} (h : ∀ x, x < n → (p x ↔ q x)) : fil p n = fil q n := by
  unfold fil
  refine List.filter_congr (fun x hx => ?_)
  have := h x (List.mem_range.mp hx)
  by_cases z : q x
  · simp [z, this.mpr z]
  · have z2 : ¬ p x := fun y => z (this.mp y)
    simp [z, z2]
theorem eraseIdx_filter {L : List Nat} (hn : L.Nodup) : ∀ {j b : Nat}, L[j]? = some b → L.filter (fun x => decide (x ≠ b)) = L.eraseIdx j := by
  induction L with
  | nil => intro j b h; simp at h
  | cons a L ih =>
    intro j b h
    obtain ⟨h1, h2⟩ := List.nodup_cons.mp hn
    cases j with
    | zero =>
      simp at h
      subst h
      rw [List.filter_cons, if_neg (by simp), List.eraseIdx_cons_zero]
      rw [List.filter_eq_self]
      intro x hx
      simp
      intro e
      subst e
      exact h1 hx
    | succ j =>
      rw [List.getElem?_cons_succ] at h
      have hb : b ∈ L := List.mem_of_getElem? h
      rw [List.filter_cons, if_pos (by simp; intro e; subst e; exact h1 hb), List.eraseIdx_cons_succ, ih h2 h]
theorem fil_erase {p q : Nat → Prop} [DecidablePred p] [DecidablePred q] {n j b : Nat} (h : ∀ x, x < n → (q x ↔ p x ∧ x ≠ b)) (hj : (fil p n)[j]? = some b) : fil q n = (fil p n).eraseIdx j := by
  rw [← eraseIdx_filter (fil_nodup p n) hj]
  unfold fil
  rw [List.filter_filter]
  refine List.filter_congr (fun x hx => ?_)
  have := h x (List.mem_range.mp hx)
  by_cases z : q x
  · have z2 := this.mp z
    simp [z, z2.1, z2.2]
  · by_cases y : p x
    · have : x = b := Decidable.byContradiction (fun e => z (this.mpr ⟨y, e⟩))
      subst this
      simp [z]
    · simp [z, y]
theorem fil_add {p q : Nat → Prop} [DecidablePred p] [DecidablePred q] {b : Nat} : ∀ n, (∀ x, x < n → (q x ↔ p x ∨ x = b)) → (∀ x, x < n → p x → x < b) → b < n → fil q n = fil p n ++ [b] := by
  intro n
  induction n with
  | zero => intro _ _ h; omega
  | succ n ih =>
    intro h1 h2 h3
    rw [fil_succ, fil_succ]
    by_cases e : b = n
    · subst e
      rw [if_pos ((h1 b (by omega)).mpr (Or.inr rfl)), if_neg (fun z => absurd (h2 b (by omega) z) (by omega))]
      rw [fil_congr (p := q) (q := p) (fun x hx => ⟨fun z => ((h1 x (by omega)).mp z).elim id (fun e => absurd e (by omega)), fun z => (h1 x (by omega)).mpr (Or.inl z)⟩)]
    · rw [if_neg (fun z => ((h1 n (by omega)).mp z).elim (fun u => absurd (h2 n (by omega) u) (by omega)) (fun u => absurd u (by omega))), if_neg (fun u => absurd (h2 n (by omega) u) (by omega))]
      exact ih (fun x hx => h1 x (by omega)) (fun x hx => h2 x (by omega)) (by omega)
/-- the holds of a gate for a key -/
def hs (g : MS) (gt kk n : Nat) : List Nat := fil (mHold g gt kk) n
theorem lSum_hs (g : MS) (gt kk n : Nat) : lSum g (mClk g gt) (hs g gt kk n) = mLiveSum g gt kk n := by
  unfold hs
  induction n with
  | zero => rfl
  | succ n ih =>
    rw [fil_succ, mLiveSum]
    by_cases h : mHold g gt kk n
    · rw [if_pos h]
      unfold lSum at ih ⊢
      rw [List.foldl_append, ih]
      show (if kLive g (mClk g gt) n then _ else _) = _
      by_cases z : mLive g gt n
      · rw [if_pos z, if_pos ⟨h, z⟩]
      · rw [if_neg z, if_neg (fun q => z q.2)]
    · rw [if_neg h, if_neg (fun q => h q.1)]; exact ih
theorem cntH_hs (g : MS) (gt kk n : Nat) : mCntH g gt kk n = nI (hs g gt kk n).length := by
  unfold hs
  induction n with
  | zero => rfl
  | succ n ih =>
    rw [fil_succ, mCntH]
    by_cases h : mHold g gt kk n
    · rw [if_pos h, if_pos h, ih, List.length_append]; exact nI_add _ 1
    · rw [if_neg h, if_neg h]; exact ih
/-! the hold that ends first -/
def bst (g : MS) (gt : Nat) (b : Int32 × Int32) (h : Nat) : Int32 × Int32 := if mLive g gt h ∧ (b.1 < 0 ∨ mRem g gt h < b.2) then (nI h, mRem g gt h) else b
theorem mBest_hs (g : MS) (gt kk n : Nat) : mBest g gt kk n = (hs g gt kk n).foldl (bst g gt) (-1, 0) := by
  unfold hs
  induction n with
  | zero => rfl
  | succ n ih =>
    rw [fil_succ, mBest]
    by_cases h : mHold g gt kk n
    · rw [if_pos h, List.foldl_append, ← ih]
      show _ = bst g gt _ n
      unfold bst
      by_cases z : mLive g gt n ∧ ((mBest g gt kk n).1 < 0 ∨ mRem g gt n < (mBest g gt kk n).2)
      · rw [if_pos z, if_pos ⟨⟨h, z.1⟩, z.2⟩]
      · rw [if_neg z, if_neg (fun q => z ⟨q.1.2, q.2⟩)]
    · rw [if_neg h, if_neg (fun q => h q.1.1)]; exact ih
theorem i32_mul {a b : Int32} (h1 : -2147483648 ≤ a.toInt * b.toInt) (h2 : a.toInt * b.toInt < 2147483648) : (a * b).toInt = a.toInt * b.toInt := by
  rw [Int32.toInt_mul]
  exact Int.bmod_eq_of_le (by omega) (by omega)
/-- times and lengths of a hold are small -/
def HT (g : MS) (h : Nat) : Prop := (0 ≤ (g.1 29 h).toInt ∧ (g.1 29 h).toInt ≤ 3000000) ∧ 0 ≤ (g.1 30 h).toInt ∧ (g.1 30 h).toInt ≤ 9000
def CT (g : MS) (gt : Nat) : Prop := 0 ≤ (mClk g gt).toInt ∧ (mClk g gt).toInt ≤ 3000000
theorem mSpan_I {g : MS} {h : Nat} (z : HT g h) : 0 ≤ (mSpan g h).toInt ∧ (mSpan g h).toInt ≤ 8982 := by
  obtain ⟨-, z1, z2⟩ := z
  have e0 : (998 : Int32).toInt = 998 := by decide
  have e1 : (1000 : Int32).toInt = 1000 := by decide
  have e : (998 * g.1 30 h).toInt = 998 * (g.1 30 h).toInt := by
    rw [i32_mul (by rw [e0]; omega) (by rw [e0]; omega), e0]
  show 0 ≤ (998 * g.1 30 h / 1000).toInt ∧ (998 * g.1 30 h / 1000).toInt ≤ 8982
  rw [Int32.toInt_div, e, e1, Int.tdiv_eq_ediv_of_nonneg (by omega), Int.bmod_eq_of_le (by omega) (by omega)]
  omega
theorem mRem_I {g : MS} {gt h : Nat} (z : HT g h) (c : CT g gt) : (mRem g gt h).toInt = (mSpan g h).toInt - ((mClk g gt).toInt - (g.1 29 h).toInt) := by
  have s := mSpan_I z
  obtain ⟨⟨z1, z2⟩, -⟩ := z
  obtain ⟨c1, c2⟩ := c
  have e : (mAge g gt h).toInt = (mClk g gt).toInt - (g.1 29 h).toInt := i32_sub (by omega) (by omega)
  show (mSpan g h - mAge g gt h).toInt = _
  rw [i32_sub (by omega) (by omega), e]
theorem kEnd_I {g : MS} {h : Nat} (z : HT g h) : (kEnd g h).toInt = (g.1 29 h).toInt + (mSpan g h).toInt := by
  have s := mSpan_I z
  obtain ⟨⟨z1, z2⟩, -⟩ := z
  exact i32_add (by omega) (by omega)
theorem rem_end {g : MS} {gt h h1 : Nat} (z : HT g h) (z1 : HT g h1) (c : CT g gt) : mRem g gt h < mRem g gt h1 ↔ kEnd g h < kEnd g h1 := by
  rw [Int32.lt_iff_toInt_lt, Int32.lt_iff_toInt_lt, mRem_I z c, mRem_I z1 c, kEnd_I z, kEnd_I z1]
  omega
theorem best_rel {g : MS} {gt : Nat} {L : List Nat} (hL : ∀ h, h ∈ L → HT g h ∧ h < 300) (c : CT g gt) (hl : L.length ≤ 400) : ∀ k, k ≤ L.length → (bIx g (mClk g gt) L k = -1 ∧ (L.take k).foldl (bst g gt) (-1, 0) = (-1, 0)) ∨ ∃ j h, j < k ∧ L[j]? = some h ∧ bIx g (mClk g gt) L k = nI j ∧ (L.take k).foldl (bst g gt) (-1, 0) = (nI h, mRem g gt h) := by
  intro k
  induction k with
  | zero => intro _; exact Or.inl ⟨rfl, rfl⟩
  | succ k ih =>
    intro hk
    obtain ⟨h, hh⟩ : ∃ h, L[k]? = some h := ⟨_, List.getElem?_eq_getElem (by omega)⟩
    have eT : (L.take (k + 1)).foldl (bst g gt) (-1, 0) = bst g gt ((L.take k).foldl (bst g gt) (-1, 0)) h := by
      rw [List.take_add_one, hh, List.foldl_append]; rfl
    rw [eT]
    have hm := hL h (List.mem_of_getElem? hh)
    by_cases z : mLive g gt h
    · rcases ih (by omega) with ⟨a, b⟩ | ⟨j, h1, a1, a2, a3, a4⟩
      · rw [b]
        refine Or.inr ⟨k, h, Nat.lt_succ_self _, hh, bIx_y1 hh z a, ?_⟩
        rw [bst, if_pos ⟨z, Or.inl (by decide)⟩]
      · rw [a4]
        have hm1 := hL h1 (List.mem_of_getElem? a2)
        by_cases y : kEnd g h < kEnd g h1
        · refine Or.inr ⟨k, h, Nat.lt_succ_self _, hh, bIx_y2 hh z a3 (by omega) a2 y, ?_⟩
          rw [bst, if_pos ⟨z, Or.inr ((rem_end hm.1 hm1.1 c).mpr y)⟩]
        · refine Or.inr ⟨j, h1, by omega, a2, bIx_n2 hh a3 (by omega) (fun e => by have := nI_pos (n := j) (by omega); rw [e] at this; exact this (by decide)) a2 y, ?_⟩
          rw [bst, if_neg]
          intro q
          rcases q.2 with u | u
          · exact nI_pos (n := h1) (by omega) u
          · exact y ((rem_end hm.1 hm1.1 c).mp u)
    · have e : ∀ b, bst g gt b h = b := fun b => by rw [bst, if_neg (fun q => z q.1)]
      rw [bIx_n1 hh z, e]
      rcases ih (by omega) with a | ⟨j, h1, a1, a2, a3, a4⟩
      · exact Or.inl a
      · exact Or.inr ⟨j, h1, by omega, a2, a3, a4⟩
/-- the class and the reference pick the same hold -/
theorem best_same {g : MS} {gt kk n : Nat} (hL : ∀ h, h < n → mHold g gt kk h → HT g h) (c : CT g gt) (hn : n ≤ 300) : (bIx g (mClk g gt) (hs g gt kk n) (hs g gt kk n).length = -1 ∧ (mBest g gt kk n).1 = -1) ∨ ∃ j h, (hs g gt kk n)[j]? = some h ∧ bIx g (mClk g gt) (hs g gt kk n) (hs g gt kk n).length = nI j ∧ (mBest g gt kk n).1 = nI h := by
  have hl := fil_len (mHold g gt kk) n
  rcases best_rel (L := hs g gt kk n) (fun h hh => ⟨hL h (mem_fil.mp hh).1 (mem_fil.mp hh).2, by have := (mem_fil.mp hh).1; omega⟩) c (by show (fil (mHold g gt kk) n).length ≤ 400; omega) _ (Nat.le_refl _) with ⟨a, b⟩ | ⟨j, h, a1, a2, a3, a4⟩
  · refine Or.inl ⟨a, ?_⟩
    rw [List.take_length] at b
    rw [mBest_hs, b]
  · refine Or.inr ⟨j, h, a2, a3, ?_⟩
    rw [List.take_length] at a4
    rw [mBest_hs, a4]
/-- what one turn of the loop takes out of the list -/
theorem hs_tk {g : MS} {gt kk n j b : Nat} {x : Int32} (hg : gt < 6) (hj : (hs g gt kk n)[j]? = some b) : hs (mTk2 g b x) gt kk n = if g.1 28 b - x = 0 then (hs g gt kk n).eraseIdx j else hs g gt kk n := by
  by_cases z : g.1 28 b - x = 0
  · rw [if_pos z]
    exact fil_erase (fun h _ => by rw [mTk2_hold hg]; exact ⟨fun q => ⟨q.1, fun e => q.2 ⟨e, z⟩⟩, fun q => ⟨q.1, fun e => q.2 e.1⟩⟩) hj
  · rw [if_neg z]
    exact fil_congr (fun h _ => by rw [mTk2_hold hg]; exact ⟨fun q => q.1, fun q => ⟨q, fun e => z e.2⟩⟩)
