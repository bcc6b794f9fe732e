/-- what is lent of key k at the time t -/
def lnI (g : MS) (k : Nat) (t : Int) : Nat → Int
  | 0 => 0
  | h + 1 => if g.1 8 h = nI k ∧ t < (g.1 10 h).toInt then lnI g k t h + (g.1 9 h).toInt else lnI g k t h
def mxI (g : MS) (k n : Nat) (t : Int) : Int := max 0 (1000 * ((g.1 4 k).toInt - lnI g k t n))
/-- the level, millisecond by millisecond -/
def lvI (g : MS) (k n : Nat) (tm : Int) : Nat → Int
  | 0 => (g.2.1 5 k).toInt
  | j + 1 => min (mxI g k n (tm + (j + 1 : Nat))) (lvI g k n tm j + (g.1 3 k).toInt)
theorem lvI_run {g : MS} {k n : Nat} {tm M : Int} (r0 : 0 ≤ (g.1 3 k).toInt) (a : Nat) : ∀ d, (d = 0 → lvI g k n tm a ≤ M) → (∀ j, j < d → mxI g k n (tm + (a + j + 1 : Nat)) = M) → lvI g k n tm (a + d) = min M (lvI g k n tm a + (g.1 3 k).toInt * d) := by
  intro d
  induction d with
  | zero => intro h0 _; have := h0 rfl; rw [Int.natCast_zero, Int.mul_zero]; show lvI g k n tm a = _; omega
  | succ d ih =>
    intro _ h
    have e := h d (by omega)
    have e2 : lvI g k n tm (a + (d + 1)) = min (mxI g k n (tm + (a + d + 1 : Nat))) (lvI g k n tm (a + d) + (g.1 3 k).toInt) := rfl
    rw [e2, e]
    have e3 : (g.1 3 k).toInt * ((d + 1 : Nat) : Int) = (g.1 3 k).toInt * (d : Int) + (g.1 3 k).toInt := by
      rw [Int.natCast_add, Int.mul_add]; simp
    have p : 0 ≤ (g.1 3 k).toInt * (d : Int) := Int.mul_nonneg r0 (Int.natCast_nonneg _)
    rw [e3]
    by_cases z : d = 0
    · subst z; rw [Int.natCast_zero, Int.mul_zero]; show min M (lvI g k n tm a + _) = _; omega
    · rw [ih (fun q => absurd q z) (fun j hj => h j (by omega))]
      omega
/-- the sum of what is lent -/
def smI (g : MS) (k : Nat) : Nat → Int
  | 0 => 0
  | h + 1 => if g.1 8 h = nI k then smI g k h + (g.1 9 h).toInt else smI g k h
theorem mLt_sm {g : MS} {n : Nat} (H : BInv g n) (hn : n ≤ 300) (k : Nat) : (mLt g k n).toInt = smI g k n := by
  have : ∀ m, m ≤ n → (mLent (g.1 8) (g.1 9) (nI k) m).toInt = smI g k m := by
    intro m
    induction m with
    | zero => intro _; rfl
    | succ m ih =>
      intro hm
      have a := mLent_I (lk := g.1 8) (lt := g.1 9) (key := nI k) hn (fun x hx => (H.2 x hx).1) m (by omega)
      have b := (H.2 m (by omega)).1
      rw [mLent, smI]
      split
      · rw [i32_add (by omega) (by omega), ih (by omega)]
      · exact ih (by omega)
  exact this n (Nat.le_refl _)
theorem smI_ln {g q : MS} {k n : Nat} {t : Int} (h8 : q.1 8 = g.1 8) (h : ∀ x, x < n → g.1 8 x = nI k → (q.1 9 x).toInt = if t < (g.1 10 x).toInt then (g.1 9 x).toInt else 0) : smI q k n = lnI g k t n := by
  induction n with
  | zero => rfl
  | succ n ih =>
    rw [smI, lnI, ih (fun x hx => h x (by omega)), h8]
    by_cases z : g.1 8 n = nI k
    · rw [if_pos z, h n (by omega) z]
      by_cases z2 : t < (g.1 10 n).toInt
      · rw [if_pos z2, if_pos ⟨z, z2⟩]
      · rw [if_neg z2, if_neg (fun u => z2 u.2)]; omega
    · rw [if_neg z, if_neg (fun u => z u.1)]
theorem i32_I0 {x : Int32} : x.toInt = 0 ↔ x = 0 := ⟨fun h => Int32.toInt_inj.mp (h.trans rfl), fun h => by rw [h]; rfl⟩
/-- one fill over d milliseconds in which nothing ends -/
theorem lvl_fill {g q : MS} {k n a d : Nat} {tm : Int} {x : Int64} (hn : n ≤ 300) (hk : k < 8) (H : BInv q n) (h3 : q.1 3 = g.1 3) (h4 : q.1 4 = g.1 4) (hl : (q.2.1 5 k).toInt = lvI g k n tm a) (hm : d = 0 → lvI g k n tm a ≤ max 0 (1000 * ((g.1 4 k).toInt - smI q k n))) (hc : ∀ j, j < d → lnI g k (tm + (a + j + 1 : Nat)) n = smI q k n) (hx : x.toInt = (g.1 3 k).toInt * d) (hd : d ≤ 4000000) : (fillV (mMost q n k) (q.2.1 5 k + x)).toInt = lvI g k n tm (a + d) := by
  have b := H.1 k hk
  rw [h3] at b
  have p : 0 ≤ (g.1 3 k).toInt * (d : Int) := Int.mul_nonneg b.1.1 (Int.natCast_nonneg _)
  have p2 : (g.1 3 k).toInt * (d : Int) ≤ 100000 * 4000000 := Int.mul_le_mul b.1.2 (by omega) (Int.natCast_nonneg _) (by omega)
  rw [fillV_I, most_I H hn hk, i64_add (by omega) (by omega), hx, mLt_sm H hn, h4, hl, lvI_run b.1.1 a d hm (fun j hj => by rw [mxI, hc j hj])]
  omega
theorem lvI_le {g : MS} {k n : Nat} {tm : Int} (a : Nat) (h : (g.2.1 5 k).toInt ≤ mxI g k n tm) : lvI g k n tm a ≤ mxI g k n (tm + (a : Nat)) := by
  cases a with
  | zero => rw [Int.natCast_zero, Int.add_zero]; exact h
  | succ a => rw [lvI]; omega
theorem lvI_0 {g : MS} {k n : Nat} {tm : Int} (h0 : 0 ≤ (g.2.1 5 k).toInt) (r0 : 0 ≤ (g.1 3 k).toInt) : ∀ a, 0 ≤ lvI g k n tm a := by
  intro a
  induction a with
  | zero => exact h0
  | succ a ih => rw [lvI, mxI]; omega
/-! the class's pass, at one bucket -/
/-- where the pass stands: g as it began, q now, the time at_ -/
def PsR (g q : MS) (k n : Nat) (tm : Int) (to : Int) (at_ : Int32) : Prop :=
  (∀ j, j ≠ 9 → q.1 j = g.1 j) ∧ tm ≤ at_.toInt ∧ at_.toInt ≤ to ∧ (q.2.1 5 k).toInt = lvI g k n tm (at_.toInt - tm).toNat ∧
  (q.2.1 5 k).toInt ≤ max 0 (1000 * ((g.1 4 k).toInt - smI q k n)) ∧
  ∀ h, h < n → g.1 8 h = nI k → (q.1 9 h = g.1 9 h ∧ (¬ g.1 9 h = 0 → at_.toInt < (g.1 10 h).toInt)) ∨ (q.1 9 h = 0 ∧ (g.1 10 h).toInt ≤ at_.toInt + 1 ∧ (g.1 10 h).toInt ≤ to)
theorem PsR.ln {g q : MS} {k n : Nat} {tm to : Int} {at_ : Int32} (R : PsR g q k n tm to at_) {T t : Int} (hT : ∀ h, h ∈ lsB q k n → T < (g.1 10 h).toInt) (h1 : at_.toInt + 1 ≤ t) (h2 : t ≤ T) : lnI g k t n = smI q k n := by
  obtain ⟨r1, r2, r3, r4, r5, r6⟩ := R
  refine (smI_ln (r1 8 (by decide)) (fun x hx hk => ?_)).symm
  rcases r6 x hx hk with ⟨a, b⟩ | ⟨a, b, -⟩
  · by_cases z : g.1 9 x = 0
    · rw [a, z]; split <;> rfl
    · have := hT x (mem_fil.mpr ⟨hx, by rw [r1 8 (by decide)]; exact hk, by rw [a]; exact z⟩)
      rw [if_pos (by omega), a]
  · rw [if_neg (by omega), a]; rfl
theorem PsR.fill {g q : MS} {k n : Nat} {tm to : Int} {at_ : Int32} (R : PsR g q k n tm to at_) (hn : n ≤ 300) (hk : k < 8) (H : BInv q n) {T : Int} (hT : ∀ h, h ∈ lsB q k n → T < (g.1 10 h).toInt) (h1 : at_.toInt ≤ T) (h2 : T - at_.toInt ≤ 4000000) {x : Int64} (hx : x.toInt = (g.1 3 k).toInt * (T - at_.toInt)) : ((kFill q n k x).2.1 5 k).toInt = lvI g k n tm (T - tm).toNat ∧ ((kFill q n k x).2.1 5 k).toInt ≤ max 0 (1000 * ((g.1 4 k).toInt - smI q k n)) := by
  have R' := R
  obtain ⟨r1, r2, r3, r4, r5, r6⟩ := R
  have e : (kFill q n k x).2.1 5 k = fillV (mMost q n k) (q.2.1 5 k + x) := iL_s
  rw [e]
  have e2 : (T - tm).toNat = (at_.toInt - tm).toNat + (T - at_.toInt).toNat := by omega
  refine ⟨?_, ?_⟩
  · rw [e2]
    refine lvl_fill hn hk H (r1 3 (by decide)) (r1 4 (by decide)) r4 (fun _ => by rw [← r4]; exact r5) (fun j hj => R'.ln hT (by omega) (by omega)) ?_ (by omega)
    rw [hx]
    congr 1
    omega
  · rw [fillV_I, most_I H hn hk, mLt_sm H hn, r1 4 (by decide)]; omega
theorem eH_mem {g : MS} {L : List Nat} (h0 : L ≠ []) (hl : L.length ≤ 400) : ∃ j : Nat, L[j]? = some (eH g L) ∧ ∀ x, x ∈ L → g.1 10 (eH g L) ≤ g.1 10 x := by
  obtain ⟨j, h, a1, a2, a3, a4⟩ := eIx_min (g := g) hl L.length (List.length_pos_iff.mpr h0) (Nat.le_refl _)
  have e := eH_of a3 a2 (by omega)
  refine ⟨j, by rw [e]; exact a2, fun x hx => ?_⟩
  obtain ⟨i, hi, hx2⟩ := List.getElem_of_mem hx
  rw [e]
  exact a4 i x hi (by rw [List.getElem?_eq_getElem hi, hx2])
theorem lsB_z9 {g : MS} {k n j h : Nat} (hj : (lsB g k n)[j]? = some h) : lsB (iI g 9 h 0) k n = (lsB g k n).eraseIdx j := by
  refine fil_erase (fun x hx => ?_) hj
  unfold lsP
  rw [show (iI g 9 h 0).1 8 x = g.1 8 x from rfl, iI9]
  by_cases z : x = h
  · subst z; rw [if_pos rfl]; exact ⟨fun q => absurd rfl q.2, fun q => absurd rfl q.2⟩
  · rw [if_neg z]; exact ⟨fun q => ⟨q, z⟩, fun q => q.1⟩
theorem smI_z9 {g : MS} {k h : Nat} : ∀ n, smI (iI g 9 h 0) k n = if h < n ∧ g.1 8 h = nI k then smI g k n - (g.1 9 h).toInt else smI g k n := by
  intro n
  induction n with
  | zero => rw [if_neg (fun z => absurd z.1 (Nat.not_lt_zero _))]; rfl
  | succ n ih =>
    rw [smI, smI, ih, show (iI g 9 h 0).1 8 n = g.1 8 n from rfl, iI9]
    by_cases e : n = h
    · subst e
      rw [if_pos rfl, if_neg (show ¬ (n < n ∧ g.1 8 n = nI k) from fun z => absurd z.1 (Nat.lt_irrefl _))]
      by_cases z : g.1 8 n = nI k
      · rw [if_pos z, if_pos z, if_pos ⟨Nat.lt_succ_self _, z⟩, show (0 : Int32).toInt = 0 from rfl]; omega
      · rw [if_neg z, if_neg z, if_neg (show ¬ (n < n + 1 ∧ g.1 8 n = nI k) from fun u => z u.2)]
    · rw [if_neg e]
      by_cases z : h < n ∧ g.1 8 h = nI k
      · rw [if_pos z, if_pos (show h < n + 1 ∧ g.1 8 h = nI k from ⟨by omega, z.2⟩)]
        split <;> omega
      · rw [if_neg z, if_neg (show ¬ (h < n + 1 ∧ g.1 8 h = nI k) from fun u => z ⟨by omega, u.2⟩)]
theorem i64_prod {a b : Int32} (h1 : 0 ≤ a.toInt) (h2 : a.toInt ≤ 100000) (h3 : 0 ≤ b.toInt) (h4 : b.toInt ≤ 4000000) : (a.toInt64 * b.toInt64).toInt = a.toInt * b.toInt := by
  have p : 0 ≤ a.toInt * b.toInt := Int.mul_nonneg h1 h3
  have p2 : a.toInt * b.toInt ≤ 100000 * 4000000 := Int.mul_le_mul h2 h4 h3 (by omega)
  rw [i64_mul (by rw [Int32.toInt_toInt64, Int32.toInt_toInt64]; omega) (by rw [Int32.toInt_toInt64, Int32.toInt_toInt64]; omega), Int32.toInt_toInt64, Int32.toInt_toInt64]
/-- the class's pass ends with the level of that time, and with nothing on loan whose end has come -/
theorem kPassD_R {g : MS} {k n : Nat} {tm : Int} {to : Int32} (hn : n ≤ 300) (hk : k < 8) (ht0 : 0 ≤ tm) (hto : to.toInt ≤ 4000000) : ∀ d q at_, (lsB q k n).length ≤ d → BInv q n → PsR g q k n tm to.toInt at_ → ((kPassD n k to d q at_).2.1 5 k).toInt = lvI g k n tm (to.toInt - tm).toNat ∧ ∀ h, h < n → g.1 8 h = nI k → (kPassD n k to d q at_).1 9 h = if (g.1 10 h).toInt ≤ to.toInt then 0 else g.1 9 h := by
  intro d
  have fin : ∀ q at_, BInv q n → PsR g q k n tm to.toInt at_ → (∀ h, h ∈ lsB q k n → to.toInt < (g.1 10 h).toInt) → ((kFill q n k ((q.1 3 k).toInt64 * (to - at_).toInt64)).2.1 5 k).toInt = lvI g k n tm (to.toInt - tm).toNat ∧ ∀ h, h < n → g.1 8 h = nI k → (kFill q n k ((q.1 3 k).toInt64 * (to - at_).toInt64)).1 9 h = if (g.1 10 h).toInt ≤ to.toInt then 0 else g.1 9 h := by
    intro q at_ H R hT
    have R' := R
    obtain ⟨r1, r2, r3, r4, r5, r6⟩ := R
    have b := (H.1 k hk).1
    have es : (to - at_).toInt = to.toInt - at_.toInt := i32_sub (by omega) (by omega)
    refine ⟨(R'.fill hn hk H hT r3 (by omega) ?_).1, fun h hh hkk => ?_⟩
    · rw [i64_prod b.1 b.2 (by omega) (by omega), es, r1 3 (by decide)]
    · show q.1 9 h = _
      rcases r6 h hh hkk with ⟨a, c⟩ | ⟨a, c, c2⟩
      · rw [a]
        by_cases z : g.1 9 h = 0
        · rw [z]; split <;> rfl
        · have := hT h (mem_fil.mpr ⟨hh, by rw [r1 8 (by decide)]; exact hkk, by rw [a]; exact z⟩)
          rw [if_neg (by omega)]
      · rw [a, if_pos c2]
  induction d with
  | zero =>
    intro q at_ hl H R
    have : lsB q k n = [] := List.length_eq_zero_iff.mp (by omega)
    exact fin q at_ H R (fun h hh => by rw [this] at hh; exact absurd hh (List.not_mem_nil))
  | succ d ih =>
    intro q at_ hl H R
    have R' := R
    obtain ⟨r1, r2, r3, r4, r5, r6⟩ := R
    rw [kPassD]
    have h10 : q.1 10 = g.1 10 := r1 10 (by decide)
    by_cases z : lsB q k n = []
    · rw [if_pos (Or.inl z)]
      exact fin q at_ H R' (fun h hh => by rw [z] at hh; exact absurd hh (List.not_mem_nil))
    · have hlen : (lsB q k n).length ≤ 400 := by have := fil_len (lsP q k) n; show (fil (lsP q k) n).length ≤ 400; omega
      obtain ⟨j, hj, hmin⟩ := eH_mem (g := q) z hlen
      by_cases y : to < q.1 10 (eH q (lsB q k n))
      · rw [if_pos (Or.inr y)]
        refine fin q at_ H R' (fun h hh => ?_)
        have := hmin h hh
        rw [h10] at this y
        rw [Int32.le_iff_toInt_le] at this
        rw [Int32.lt_iff_toInt_lt] at y
        omega
      · rw [if_neg (fun u => u.elim z y)]
        generalize eH q (lsB q k n) = e at hj hmin y ⊢
        have hm := mem_fil.mp (List.mem_of_getElem? hj)
        rw [h10] at y hmin ⊢
        rw [Int32.lt_iff_toInt_lt] at y
        have hek : g.1 8 e = nI k := by have := hm.2.1; rw [r1 8 (by decide)] at this; exact this
        have hat : at_.toInt < (g.1 10 e).toInt := by
          rcases r6 e hm.1 hek with ⟨a, c⟩ | ⟨a, -⟩
          · exact c (fun u => hm.2.2 (a.trans u))
          · exact absurd a hm.2.2
        have hT : ∀ h, h ∈ lsB q k n → (g.1 10 e).toInt - 1 < (g.1 10 h).toInt := fun h hh => by
          have := hmin h hh
          rw [Int32.le_iff_toInt_le] at this
          omega
        have b := (H.1 k hk).1
        have e1 : (1 : Int32).toInt = 1 := rfl
        have es : (g.1 10 e - 1).toInt = (g.1 10 e).toInt - 1 := by rw [i32_sub (by omega) (by omega), e1]
        have es2 : (g.1 10 e - 1 - at_).toInt = (g.1 10 e).toInt - 1 - at_.toInt := by rw [i32_sub (by omega) (by omega), es]
        have hF := R'.fill hn hk H hT (by omega) (by omega) (x := (q.1 3 k).toInt64 * (g.1 10 e - 1 - at_).toInt64) (by rw [i64_prod b.1 b.2 (by omega) (by omega), es2, r1 3 (by decide)])
        have hH2 := (H.fill hn hk (k := k) (x := (q.1 3 k).toInt64 * (g.1 10 e - 1 - at_).toInt64))
        refine ih _ _ ?_ hH2.z9 ⟨fun i hi => (iI_j hi).trans (r1 i hi), by omega, by omega, ?_, ?_, fun h hh hkk => ?_⟩
        · have : lsB (iI (kFill q n k ((q.1 3 k).toInt64 * (g.1 10 e - 1 - at_).toInt64)) 9 e 0) k n = (lsB q k n).eraseIdx j := lsB_z9 (g := kFill q n k _) hj
          rw [this, List.length_eraseIdx]
          have : j < (lsB q k n).length := (List.getElem?_eq_some_iff.mp hj).1
          rw [if_pos this]; omega
        · rw [es]; exact hF.1
        · refine Int.le_trans hF.2 ?_
          rw [smI_z9]
          have e9 : smI (kFill q n k ((q.1 3 k).toInt64 * (g.1 10 e - 1 - at_).toInt64)) k n = smI q k n := by
            have : ∀ m, smI (kFill q n k ((q.1 3 k).toInt64 * (g.1 10 e - 1 - at_).toInt64)) k m = smI q k m := by
              intro m
              induction m with
              | zero => rfl
              | succ m ih2 => rw [smI, smI, ih2]; rfl
            exact this n
          rw [e9, if_pos ⟨hm.1, hm.2.1⟩]
          have h9 := (H.2 e hm.1).1
          show max 0 (1000 * ((g.1 4 k).toInt - smI q k n)) ≤ max 0 (1000 * ((g.1 4 k).toInt - (smI q k n - (q.1 9 e).toInt)))
          omega
        · rw [es]
          by_cases u : h = e
          · subst u
            exact Or.inr ⟨iI_s, by omega, by omega⟩
          · rw [iI_o u]
            rcases r6 h hh hkk with ⟨a, c⟩ | ⟨a, c, c2⟩
            · refine Or.inl ⟨a, fun w => ?_⟩
              have := hT h (mem_fil.mpr ⟨hh, by rw [r1 8 (by decide)]; exact hkk, by rw [a]; exact w⟩)
              omega
            · exact Or.inr ⟨a, by omega, c2⟩
/-! the reference's way -/
theorem mFillAll_1 (g : MS) (n : Nat) (ms : Int32) : ∀ m, (mFillAll g n ms m).1 = g.1 ∧ (∀ j, j ≠ 5 → (mFillAll g n ms m).2.1 j = g.2.1 j) ∧ (mFillAll g n ms m).2.2 = g.2.2 ∧ ∀ i, (mFillAll g n ms m).2.1 5 i = if i < m then fillV (mMost g n i) (g.2.1 5 i + ms.toInt64 * (g.1 3 i).toInt64) else g.2.1 5 i := by
  intro m
  induction m with
  | zero => exact ⟨rfl, fun _ _ => rfl, rfl, fun i => (if_neg (Nat.not_lt_zero _)).symm⟩
  | succ m ih =>
    obtain ⟨a1, a2, a3, a4⟩ := ih
    refine ⟨a1, fun j hj => (va_up_ne _ _ hj).trans (a2 j hj), a3, fun i => ?_⟩
    have e : mFillAll g n ms (m + 1) = iL (mFillAll g n ms m) 5 m (fillV (mMost (mFillAll g n ms m) n m) ((mFillAll g n ms m).2.1 5 m + ms.toInt64 * ((mFillAll g n ms m).1 3 m).toInt64)) := rfl
    rw [e]
    by_cases z : i = m
    · subst z
      rw [iL_s, if_pos (Nat.lt_succ_self _), a4, if_neg (Nat.lt_irrefl _)]
      unfold mMost
      rw [a1]
    · rw [iL_o z, a4]
      by_cases y : i < m
      · rw [if_pos y, if_pos (by omega)]
      · rw [if_neg y, if_neg (by omega)]
theorem mZero_1 (g : MS) (x : Int32) : ∀ m, (∀ j, j ≠ 9 → (mZero g x m).1 j = g.1 j) ∧ (mZero g x m).2 = g.2 ∧ ∀ h, (mZero g x m).1 9 h = if h < m ∧ g.1 10 h = x then 0 else g.1 9 h := by
  intro m
  induction m with
  | zero => exact ⟨fun _ _ => rfl, rfl, fun h => (if_neg (fun z => absurd z.1 (Nat.not_lt_zero _))).symm⟩
  | succ m ih =>
    obtain ⟨a1, a2, a3⟩ := ih
    have e : mZero g x (m + 1) = if (mZero g x m).1 10 m = x then iI (mZero g x m) 9 m 0 else mZero g x m := rfl
    rw [e, a1 10 (by decide)]
    by_cases z : g.1 10 m = x
    · rw [if_pos z]
      refine ⟨fun j hj => (iI_j hj).trans (a1 j hj), a2, fun h => ?_⟩
      rw [iI9, a3]
      by_cases y : h = m
      · subst y; rw [if_pos rfl, if_pos ⟨Nat.lt_succ_self _, z⟩]
      · rw [if_neg y]
        by_cases w : h < m ∧ g.1 10 h = x
        · rw [if_pos w, if_pos ⟨by omega, w.2⟩]
        · rw [if_neg w, if_neg (fun u => w ⟨by omega, u.2⟩)]
    · rw [if_neg z]
      refine ⟨a1, a2, fun h => ?_⟩
      rw [a3]
      by_cases w : h < m ∧ g.1 10 h = x
      · rw [if_pos w, if_pos ⟨by omega, w.2⟩]
      · rw [if_neg w, if_neg (fun u => w ⟨by have : h ≠ m := fun e => z (by rw [← e]; exact u.2); omega, u.2⟩)]
theorem mNext_s (lt le : Nat → Int32) (tm : Int32) (h0 : 0 ≤ tm.toInt) : ∀ m, (mNext lt le tm m = -1 ∧ ∀ h, h < m → 0 < lt h → ¬ tm < le h) ∨ ∃ h, h < m ∧ 0 < lt h ∧ tm < le h ∧ mNext lt le tm m = le h ∧ ∀ x, x < m → 0 < lt x → tm < le x → le h ≤ le x := by
  intro m
  induction m with
  | zero => exact Or.inl ⟨rfl, fun h hh => absurd hh (Nat.not_lt_zero _)⟩
  | succ m ih =>
    rw [mNext]
    by_cases z : 0 < lt m ∧ tm < le m
    · rcases ih with ⟨a, b⟩ | ⟨h, a1, a2, a3, a4, a5⟩
      · rw [if_pos ⟨z.1, z.2, Or.inl (by rw [a]; decide)⟩]
        refine Or.inr ⟨m, Nat.lt_succ_self _, z.1, z.2, rfl, fun x hx h1 h2 => ?_⟩
        by_cases e : x = m
        · subst e; exact Int32.le_refl _
        · exact absurd h2 (b x (by omega) h1)
      · rw [a4]
        have n0 : ¬ le h < 0 := by
          rw [Int32.lt_iff_toInt_lt] at a3 ⊢
          have : (0 : Int32).toInt = 0 := rfl
          omega
        by_cases y : le m < le h
        · rw [if_pos ⟨z.1, z.2, Or.inr y⟩]
          refine Or.inr ⟨m, Nat.lt_succ_self _, z.1, z.2, rfl, fun x hx h1 h2 => ?_⟩
          by_cases e : x = m
          · subst e; exact Int32.le_refl _
          · exact Int32.le_trans (Int32.le_of_lt y) (a5 x (by omega) h1 h2)
        · rw [if_neg (fun u => u.2.2.elim n0 y)]
          refine Or.inr ⟨h, by omega, a2, a3, rfl, fun x hx h1 h2 => ?_⟩
          by_cases e : x = m
          · subst e; exact Int32.not_lt.mp y
          · exact a5 x (by omega) h1 h2
    · rw [if_neg (fun u => z ⟨u.1, u.2.1⟩)]
      rcases ih with ⟨a, b⟩ | ⟨h, a1, a2, a3, a4, a5⟩
      · refine Or.inl ⟨a, fun h hh h1 h2 => ?_⟩
        by_cases e : h = m
        · subst e; exact z ⟨h1, h2⟩
        · exact b h (by omega) h1 h2
      · refine Or.inr ⟨h, by omega, a2, a3, a4, fun x hx h1 h2 => ?_⟩
        by_cases e : x = m
        · subst e; exact absurd ⟨h1, h2⟩ z
        · exact a5 x (by omega) h1 h2
theorem BInv.fillAll {g : MS} {n : Nat} (H : BInv g n) (hn : n ≤ 300) (ms : Int32) : ∀ m, m ≤ 8 → BInv (mFillAll g n ms m) n := by
  intro m
  induction m with
  | zero => intro _; exact H
  | succ m ih => intro hm; exact (ih (by omega)).fill hn (by omega) (x := ms.toInt64 * ((mFillAll g n ms m).1 3 m).toInt64)
theorem BInv.zero {g : MS} {n : Nat} (H : BInv g n) (x : Int32) : ∀ m, BInv (mZero g x m) n := by
  intro m
  induction m with
  | zero => exact H
  | succ m ih =>
    rw [mZero]
    split
    · exact ih.z9
    · exact ih
/-- where the reference's root stands at the time t: tokens as at T -/
def RtR (g q : MS) (n : Nat) (tm : Int) (t T : Int) : Prop :=
  (∀ j, j ≠ 9 → q.1 j = g.1 j) ∧ (∀ j, j ≠ 5 → q.2.1 j = g.2.1 j) ∧ q.2.2 = g.2.2 ∧ tm ≤ t ∧ (∀ k, k < 8 → (q.2.1 5 k).toInt = lvI g k n tm (t - tm).toNat) ∧ (∀ k, 8 ≤ k → q.2.1 5 k = g.2.1 5 k) ∧ (∀ h, q.1 9 h = if h < n ∧ (g.1 10 h).toInt ≤ T then 0 else g.1 9 h)
theorem RtR.ln {g q : MS} {n : Nat} {tm t T : Int} (R : RtR g q n tm t T) (k : Nat) : smI q k n = lnI g k T n := by
  refine smI_ln (R.1 8 (by decide)) (fun x hx _ => ?_)
  rw [R.2.2.2.2.2.2 x]
  by_cases z : (g.1 10 x).toInt ≤ T
  · rw [if_pos ⟨hx, z⟩, if_neg (by omega)]; rfl
  · rw [if_neg (fun u => z u.2), if_pos (by omega)]
theorem RtR.fill {g q : MS} {n : Nat} {tm t T T2 : Int} (R : RtR g q n tm t T) (hn : n ≤ 300) (H : BInv q n) (hl : ∀ k, k < 8 → (g.2.1 5 k).toInt ≤ mxI g k n tm) (h1 : t ≤ T2) (h2 : T2 - t ≤ 4000000) (hT0 : t ≤ T) (hT : T ≤ t + 1) (hT2 : T ≤ T2) (hno : ∀ h, h < n → ¬ q.1 9 h = 0 → T2 < (g.1 10 h).toInt) {ms : Int32} (hms : ms.toInt = T2 - t) : RtR g (mFillAll q n ms 8) n tm T2 T2 := by
  have ln := R.ln
  obtain ⟨r1, r2, r3, r4, r5, r6, r7⟩ := R
  obtain ⟨a1, a2, a3, a4⟩ := mFillAll_1 q n ms 8
  refine ⟨fun j hj => by rw [a1]; exact r1 j hj, fun j hj => (a2 j hj).trans (r2 j hj), a3.trans r3, by omega, fun k hk => ?_, fun k hk => ?_, fun h => ?_⟩
  · rw [a4, if_pos hk]
    have b := (H.1 k hk).1
    have e2 : (T2 - tm).toNat = (t - tm).toNat + (T2 - t).toNat := by omega
    rw [e2]
    refine lvl_fill hn hk H (r1 3 (by decide)) (r1 4 (by decide)) (r5 k hk) (fun z => ?_) (fun j hj => ?_) ?_ (by omega)
    · have e3 : T = t := by omega
      rw [ln, e3]
      have := lvI_le (g := g) (k := k) (n := n) (tm := tm) (t - tm).toNat (hl k hk)
      rw [show tm + ((t - tm).toNat : Int) = t by omega] at this
      exact this
    · refine (smI_ln (r1 8 (by decide)) (fun x hx hkx => ?_)).symm
      by_cases z : q.1 9 x = 0
      · rw [z]
        by_cases y : tm + (((t - tm).toNat + j + 1 : Nat) : Int) < (g.1 10 x).toInt
        · rw [if_pos y]
          have := r7 x
          rw [if_neg (fun u => by omega)] at this
          rw [← this, z]
        · rw [if_neg y]; rfl
      · have y := hno x hx z
        rw [if_pos (by omega)]
        have := r7 x
        by_cases w : x < n ∧ (g.1 10 x).toInt ≤ T
        · rw [if_pos w] at this; exact absurd this z
        · rw [if_neg w] at this; rw [this]
    · rw [r1 3 (by decide)] at b ⊢
      rw [Int64.mul_comm, i64_prod b.1 b.2 (by omega) (by omega), hms]
      congr 1
      omega
  · rw [a4, if_neg (by omega)]; exact r6 k hk
  · rw [a1, r7]
    by_cases z : h < n
    · by_cases y : (g.1 10 h).toInt ≤ T2
      · rw [if_pos (show h < n ∧ (g.1 10 h).toInt ≤ T2 from ⟨z, y⟩)]
        by_cases w : q.1 9 h = 0
        · rw [← r7]; exact w
        · have := hno h z w; omega
      · rw [if_neg (fun u => y (by omega)), if_neg (fun u => y u.2)]
    · rw [if_neg (fun u => z u.1), if_neg (fun u => z u.1)]
theorem mRootD_R {g : MS} {n : Nat} {tm : Int} {to : Int32} (hn : n ≤ 300) (hl : ∀ k, k < 8 → (g.2.1 5 k).toInt ≤ mxI g k n tm) (ht0 : 0 ≤ tm) (hto : to.toInt ≤ 4000000) : ∀ d q (t : Int32), (to.toInt - t.toInt).toNat < d → t.toInt ≤ to.toInt → BInv q n → RtR g q n tm t.toInt t.toInt → RtR g (mRootD n to d q t) n tm to.toInt to.toInt := by
  intro d
  induction d with
  | zero => intro q t h; omega
  | succ d ih =>
    intro q t hd hle H R
    have R' := R
    obtain ⟨r1, r2, r3, r4, r5, r6, r7⟩ := R
    rw [mRootD]
    by_cases z : t < to
    · rw [if_pos z]
      rw [Int32.lt_iff_toInt_lt] at z
      have h10 : q.1 10 = g.1 10 := r1 10 (by decide)
      have es : (to - t).toInt = to.toInt - t.toInt := i32_sub (by omega) (by omega)
      have pos : ∀ h, h < n → ¬ q.1 9 h = 0 → 0 < q.1 9 h ∧ t < g.1 10 h := by
        intro h hh w
        refine ⟨?_, ?_⟩
        · rw [Int32.lt_iff_toInt_lt]
          have := (H.2 h hh).1.1
          have : (q.1 9 h).toInt ≠ 0 := fun u => w (i32_I0.mp u)
          have : (0 : Int32).toInt = 0 := rfl
          omega
        · rw [Int32.lt_iff_toInt_lt]
          have := r7 h
          by_cases u : h < n ∧ (g.1 10 h).toInt ≤ t.toInt
          · rw [if_pos u] at this; exact absurd this w
          · have : ¬ (g.1 10 h).toInt ≤ t.toInt := fun v => u ⟨hh, v⟩
            omega
      rw [h10]
      rcases mNext_s (q.1 9) (g.1 10) t (by omega) n with ⟨a, b⟩ | ⟨e, a1, a2, a3, a4, a5⟩
      · rw [if_pos (Or.inl (by rw [a]; decide))]
        exact R'.fill hn H hl hle (by omega) (Int.le_refl _) (by omega) hle (fun h hh w => absurd (pos h hh w).2 (b h hh (pos h hh w).1)) es
      · rw [a4]
        have n0 : ¬ g.1 10 e < 0 := by
          rw [Int32.lt_iff_toInt_lt] at a3 ⊢
          have : (0 : Int32).toInt = 0 := rfl
          omega
        by_cases y : to < g.1 10 e
        · rw [if_pos (Or.inr y)]
          refine R'.fill hn H hl hle (by omega) (Int.le_refl _) (by omega) hle (fun h hh w => ?_) es
          have := a5 h hh (pos h hh w).1 (pos h hh w).2
          rw [Int32.le_iff_toInt_le] at this
          rw [Int32.lt_iff_toInt_lt] at y
          omega
        · rw [if_neg (fun u => u.elim n0 y)]
          rw [Int32.lt_iff_toInt_lt] at y a3
          generalize hx : g.1 10 e = x at a3 a5 y n0 ⊢
          have e1 : (1 : Int32).toInt = 1 := rfl
          have es1 : (x - 1).toInt = x.toInt - 1 := by rw [i32_sub (by omega) (by omega), e1]
          have es2 : (x - 1 - t).toInt = x.toInt - 1 - t.toInt := by rw [i32_sub (by omega) (by omega), es1]
          have hnx : ∀ h, h < n → ¬ q.1 9 h = 0 → x.toInt - 1 < (g.1 10 h).toInt := fun h hh w => by
            have := a5 h hh (pos h hh w).1 (pos h hh w).2
            rw [Int32.le_iff_toInt_le] at this
            omega
          have RA := R'.fill hn H hl (T2 := x.toInt - 1) (by omega) (by omega) (Int.le_refl _) (by omega) (by omega) hnx es2
          have HA := H.fillAll hn (x - 1 - t) 8 (Nat.le_refl _)
          obtain ⟨z1, z2, z3⟩ := mZero_1 (mFillAll q n (x - 1 - t) 8) x n
          have HB := HA.zero x n
          have RB : RtR g (mZero (mFillAll q n (x - 1 - t) 8) x n) n tm (x.toInt - 1) x.toInt := by
            obtain ⟨s1, s2, s3, s4, s5, s6, s7⟩ := RA
            refine ⟨fun j hj => (z1 j hj).trans (s1 j hj), fun j hj => by rw [z2]; exact s2 j hj, by rw [z2]; exact s3, s4, fun k hk => by rw [z2]; exact s5 k hk, fun k hk => by rw [z2]; exact s6 k hk, fun h => ?_⟩
            rw [z3, s7, s1 10 (by decide)]
            by_cases u : h < n
            · by_cases v : g.1 10 h = x
              · rw [if_pos ⟨u, v⟩, if_pos ⟨u, by rw [v]; omega⟩]
              · rw [if_neg (fun w => v w.2)]
                have : (g.1 10 h).toInt ≠ x.toInt := fun w => v (Int32.toInt_inj.mp w)
                by_cases w : (g.1 10 h).toInt ≤ x.toInt
                · rw [if_pos ⟨u, by omega⟩, if_pos ⟨u, w⟩]
                · rw [if_neg (fun w2 => w (by omega)), if_neg (fun w2 => w w2.2)]
            · rw [if_neg (fun w => u w.1), if_neg (fun w => u w.1), if_neg (fun w => u w.1)]
          have RC := RB.fill hn HB hl (T2 := x.toInt) (by omega) (by omega) (by omega) (by omega) (Int.le_refl _) (fun h hh w => by
            have := RB.2.2.2.2.2.2 h
            by_cases u : h < n ∧ (g.1 10 h).toInt ≤ x.toInt
            · rw [if_pos u] at this; exact absurd this w
            · have : ¬ (g.1 10 h).toInt ≤ x.toInt := fun v => u ⟨hh, v⟩
              omega) (ms := 1) (by rw [e1]; omega)
          exact ih _ _ (by omega) (by omega) (HB.fillAll hn 1 8 (Nat.le_refl _)) RC
    · rw [if_neg z]
      have e : t.toInt = to.toInt := by rw [Int32.lt_iff_toInt_lt] at z; omega
      rw [e] at R'
      exact R'
/-! both ways end alike -/
theorem kPassD_9 {n k : Nat} {to : Int32} (hn : n ≤ 300) : ∀ d g at_ h, (n ≤ h ∨ ¬ g.1 8 h = nI k) → (kPassD n k to d g at_).1 9 h = g.1 9 h := by
  intro d
  induction d with
  | zero => intro g at_ h _; rfl
  | succ d ih =>
    intro g at_ h hh
    rw [kPassD]
    by_cases z : lsB g k n = [] ∨ to < g.1 10 (eH g (lsB g k n))
    · rw [if_pos z]; rfl
    · rw [if_neg z]
      refine (ih (iI (kFill g n k ((g.1 3 k).toInt64 * (g.1 10 (eH g (lsB g k n)) - 1 - at_).toInt64)) 9 (eH g (lsB g k n)) 0) _ h hh).trans (iI_o (fun e => ?_))
      have hl : (lsB g k n).length ≤ 400 := by have := fil_len (lsP g k) n; show (fil (lsP g k) n).length ≤ 400; omega
      obtain ⟨j, hj, -⟩ := eH_mem (g := g) (fun u => z (Or.inl u)) hl
      have := mem_fil.mp (List.mem_of_getElem? hj)
      rw [← e] at this
      rcases hh with a | a
      · omega
      · exact a this.2.1
/-- what the pass needs to know of the root -/
def LvOk (g : MS) (n : Nat) (tm : Int) : Prop := (∀ k, k < 8 → (g.2.1 5 k).toInt ≤ max 0 (1000 * ((g.1 4 k).toInt - smI g k n))) ∧ ∀ h, h < n → ¬ g.1 9 h = 0 → tm < (g.1 10 h).toInt
theorem LvOk.mx {g : MS} {n : Nat} {tm : Int} (h : LvOk g n tm) (k : Nat) (hk : k < 8) : (g.2.1 5 k).toInt ≤ mxI g k n tm := by
  rw [mxI, ← smI_ln (q := g) (t := tm) rfl (fun x hx _ => ?_)]
  · exact h.1 k hk
  · by_cases z : g.1 9 x = 0
    · rw [z]; split <;> rfl
    · rw [if_pos (h.2 x hx z)]
theorem kPass_R {g : MS} {k n : Nat} {tm to : Int32} (hn : n ≤ 300) (hk : k < 8) (H : BInv g n) (L : LvOk g n tm.toInt) (h0 : 0 ≤ tm.toInt) (h1 : tm.toInt ≤ to.toInt) (h2 : to.toInt ≤ 4000000) : ((kPass g n k tm to).2.1 5 k).toInt = lvI g k n tm.toInt (to.toInt - tm.toInt).toNat ∧ ∀ h, h < n → g.1 8 h = nI k → (kPass g n k tm to).1 9 h = if (g.1 10 h).toInt ≤ to.toInt then 0 else g.1 9 h := by
  refine kPassD_R hn hk h0 h2 _ _ _ (Nat.le_refl _) H ⟨fun _ _ => rfl, Int.le_refl _, h1, ?_, L.1 k hk, fun h hh _ => Or.inl ⟨rfl, fun z => L.2 h hh z⟩⟩
  rw [Int.sub_self]; rfl
theorem smI_eq {g q : MS} {k n : Nat} (h8 : q.1 8 = g.1 8) (h9 : ∀ h, h < n → g.1 8 h = nI k → q.1 9 h = g.1 9 h) : smI q k n = smI g k n := by
  induction n with
  | zero => rfl
  | succ n ih =>
    rw [smI, smI, ih (fun h hh => h9 h (by omega)), h8]
    by_cases z : g.1 8 n = nI k
    · rw [if_pos z, if_pos z, h9 n (by omega) z]
    · rw [if_neg z, if_neg z]
theorem lnI_eq {g q : MS} {k n : Nat} {t : Int} (h8 : q.1 8 = g.1 8) (h10 : q.1 10 = g.1 10) (h9 : ∀ h, h < n → g.1 8 h = nI k → q.1 9 h = g.1 9 h) : lnI q k t n = lnI g k t n := by
  induction n with
  | zero => rfl
  | succ n ih =>
    rw [lnI, lnI, ih (fun h hh => h9 h (by omega)), h8, h10]
    by_cases z : g.1 8 n = nI k ∧ t < (g.1 10 n).toInt
    · rw [if_pos z, if_pos z, h9 n (by omega) z.1]
    · rw [if_neg z, if_neg z]
theorem lvI_eq {g q : MS} {k n : Nat} {tm : Int} (h3 : q.1 3 = g.1 3) (h4 : q.1 4 = g.1 4) (h8 : q.1 8 = g.1 8) (h10 : q.1 10 = g.1 10) (h9 : ∀ h, h < n → g.1 8 h = nI k → q.1 9 h = g.1 9 h) (h5 : q.2.1 5 k = g.2.1 5 k) : ∀ a, lvI q k n tm a = lvI g k n tm a := by
  intro a
  induction a with
  | zero => rw [lvI, lvI, h5]
  | succ a ih => rw [lvI, lvI, ih, mxI, mxI, lnI_eq h8 h10 h9, h3, h4]
theorem kPs_R {g : MS} {n : Nat} {tm to : Int32} (hn : n ≤ 300) (H : BInv g n) (L : LvOk g n tm.toInt) (h0 : 0 ≤ tm.toInt) (h1 : tm.toInt ≤ to.toInt) (h2 : to.toInt ≤ 4000000) : ∀ m, m ≤ 8 → (∀ k, k < m → ((kPs g n tm to m).2.1 5 k).toInt = lvI g k n tm.toInt (to.toInt - tm.toInt).toNat) ∧ (∀ h, h < n → ∀ k, k < 8 → g.1 8 h = nI k → (kPs g n tm to m).1 9 h = if k < m ∧ (g.1 10 h).toInt ≤ to.toInt then 0 else g.1 9 h) ∧ ∀ h, n ≤ h → (kPs g n tm to m).1 9 h = g.1 9 h := by
  intro m
  induction m with
  | zero => intro _; exact ⟨fun k hk => absurd hk (Nat.not_lt_zero _), fun h _ k _ _ => (if_neg (fun z => absurd z.1 (Nat.not_lt_zero _))).symm, fun _ _ => rfl⟩
  | succ m ih =>
    intro hm
    obtain ⟨a1, a2, a3⟩ := ih (by omega)
    obtain ⟨j1, j2, j3, j4, j5⟩ := kPs_j g n tm to m
    obtain ⟨b1, b2, b3, b4, b5⟩ := kPassD_j n m to (lsB (kPs g n tm to m) m n).length (kPs g n tm to m) tm
    have key9 : ∀ h, h < n → g.1 8 h = nI m → (kPs g n tm to m).1 9 h = g.1 9 h := fun h hh hk => by
      rw [a2 h hh m (by omega) hk, if_neg (fun z => absurd z.1 (Nat.lt_irrefl _))]
    have L2 : LvOk (kPs g n tm to m) n tm.toInt := by
      refine ⟨fun k hk => ?_, fun h hh z => ?_⟩
      · by_cases y : k < m
        · rw [a1 k y, j1 4 (by decide)]
          have e : smI (kPs g n tm to m) k n = lnI g k to.toInt n := smI_ln (j1 8 (by decide)) (fun x hx hk2 => by
            rw [a2 x hx k hk hk2]
            by_cases w : (g.1 10 x).toInt ≤ to.toInt
            · rw [if_pos ⟨y, w⟩, if_neg (by omega)]; rfl
            · rw [if_neg (fun u => w u.2), if_pos (by omega)])
          have := lvI_le (g := g) (k := k) (n := n) (tm := tm.toInt) (to.toInt - tm.toInt).toNat (L.mx k hk)
          rw [show tm.toInt + ((to.toInt - tm.toInt).toNat : Int) = to.toInt by omega, mxI] at this
          rw [e]; exact this
        · rw [j5 k (by omega), j1 4 (by decide), smI_eq (j1 8 (by decide)) (fun h hh hk2 => by rw [a2 h hh k hk hk2, if_neg (fun z => y z.1)])]
          exact L.1 k hk
      · rw [j1 10 (by decide)]
        refine L.2 h hh (fun u => z ?_)
        rcases j4 h with w | w
        · rw [w]; exact u
        · exact w
    obtain ⟨c1, c2⟩ := kPass_R (k := m) hn (by omega) (kPs_I hn H m (by omega)) L2 h0 h1 h2
    refine ⟨fun k hk => ?_, fun h hh k hk hk2 => ?_, fun h hh => ?_⟩
    · show ((kPass (kPs g n tm to m) n m tm to).2.1 5 k).toInt = _
      by_cases e : k = m
      · subst e
        rw [c1]
        exact lvI_eq (j1 3 (by decide)) (j1 4 (by decide)) (j1 8 (by decide)) (j1 10 (by decide)) key9 (j5 k (Nat.le_refl _)) _
      · rw [show (kPass (kPs g n tm to m) n m tm to).2.1 5 k = _ from b5 k e]
        exact a1 k (by omega)
    · show (kPass (kPs g n tm to m) n m tm to).1 9 h = _
      by_cases e : k = m
      · subst e
        rw [c2 h hh (by rw [j1 8 (by decide)]; exact hk2), key9 h hh hk2, j1 10 (by decide)]
        by_cases w : (g.1 10 h).toInt ≤ to.toInt
        · rw [if_pos w, if_pos ⟨Nat.lt_succ_self _, w⟩]
        · rw [if_neg w, if_neg (fun u => w u.2)]
      · rw [show (kPass (kPs g n tm to m) n m tm to).1 9 h = _ from kPassD_9 hn _ _ _ h (Or.inr (by rw [j1 8 (by decide), hk2]; exact nI_ne (by omega) (by omega) e)), a2 h hh k hk hk2]
        by_cases w : k < m ∧ (g.1 10 h).toInt ≤ to.toInt
        · rw [if_pos w, if_pos ⟨by omega, w.2⟩]
        · rw [if_neg w, if_neg (fun u => w ⟨by omega, u.2⟩)]
    · show (kPass (kPs g n tm to m) n m tm to).1 9 h = _
      rw [show (kPass (kPs g n tm to m) n m tm to).1 9 h = _ from kPassD_9 hn _ _ _ h (Or.inl hh)]
      exact a3 h hh
theorem mRoot_R {g : MS} {n : Nat} {tm to : Int32} (hn : n ≤ 300) (H : BInv g n) (L : LvOk g n tm.toInt) (h0 : 0 ≤ tm.toInt) (h1 : tm.toInt ≤ to.toInt) (h2 : to.toInt ≤ 4000000) : RtR g (mRoot g n tm to) n tm.toInt to.toInt to.toInt := by
  refine mRootD_R hn (fun k hk => L.mx k hk) h0 h2 _ _ _ (Nat.lt_succ_self _) h1 H ⟨fun _ _ => rfl, fun _ _ => rfl, rfl, Int.le_refl _, fun k hk => by rw [Int.sub_self]; rfl, fun _ _ => rfl, fun h => ?_⟩
  by_cases z : h < n ∧ (g.1 10 h).toInt ≤ tm.toInt
  · rw [if_pos z]
    exact Decidable.byContradiction (fun u => absurd (L.2 h z.1 u) (by omega))
  · rw [if_neg z]
theorem kPs_mRoot {g : MS} {n : Nat} {tm to : Int32} (hn : n ≤ 300) (H : BInv g n) (L : LvOk g n tm.toInt) (hky : ∀ h, h < n → ∃ k, k < 8 ∧ g.1 8 h = nI k) (h0 : 0 ≤ tm.toInt) (h1 : tm.toInt ≤ to.toInt) (h2 : to.toInt ≤ 4000000) : kPs g n tm to 8 = mRoot g n tm to := by
  obtain ⟨a1, a2, a3⟩ := kPs_R hn H L h0 h1 h2 8 (Nat.le_refl _)
  obtain ⟨j1, j2, j3, j4, j5⟩ := kPs_j g n tm to 8
  obtain ⟨r1, r2, r3, r4, r5, r6, r7⟩ := mRoot_R hn H L h0 h1 h2
  refine MS_ext (fun j i => ?_) (fun j i => ?_) (fun f => by rw [j3, r3])
  · by_cases e : j = 9
    · subst e
      rw [r7]
      by_cases z : i < n
      · obtain ⟨k, hk, hk2⟩ := hky i z
        rw [a2 i z k hk hk2]
        by_cases w : (g.1 10 i).toInt ≤ to.toInt
        · rw [if_pos ⟨hk, w⟩, if_pos ⟨z, w⟩]
        · rw [if_neg (fun u => w u.2), if_neg (fun u => w u.2)]
      · rw [a3 i (by omega), if_neg (fun u => z u.1)]
    · rw [j1 j e, r1 j e]
  · by_cases e : j = 5
    · subst e
      by_cases z : i < 8
      · exact Int64.toInt_inj.mp ((a1 i z).trans (r5 i z).symm)
      · rw [j5 i (by omega), r6 i (by omega)]
    · rw [j2 j e, r2 j e]
theorem mGone_1 (g : MS) (x : Int32) : ∀ m, (mGone g x m).1 = g.1 ∧ (∀ j, j ≠ 1 → (mGone g x m).2.1 j = g.2.1 j) ∧ (mGone g x m).2.2 = g.2.2 ∧ ∀ i, (mGone g x m).2.1 1 i = if i < m then g.2.1 1 i + x.toInt64 * (g.1 2 i).toInt64 else g.2.1 1 i := by
  intro m
  induction m with
  | zero => exact ⟨rfl, fun _ _ => rfl, rfl, fun i => (if_neg (Nat.not_lt_zero _)).symm⟩
  | succ m ih =>
    obtain ⟨a1, a2, a3, a4⟩ := ih
    refine ⟨a1, fun j hj => (va_up_ne _ _ hj).trans (a2 j hj), a3, fun i => ?_⟩
    rw [mGone]
    by_cases z : i = m
    · subst z
      rw [iL_s, if_pos (Nat.lt_succ_self _), a4, if_neg (Nat.lt_irrefl _), a1]
    · rw [iL_o z, a4]
      by_cases y : i < m
      · rw [if_pos y, if_pos (by omega)]
      · rw [if_neg y, if_neg (by omega)]
/-- the class's tick is the reference's -/
theorem tick_same {g : MS} {n : Nat} {x tm to : Int32} (hn : n ≤ 300) (H : BInv g n) (L : LvOk g n tm.toInt) (hky : ∀ h, h < n → ∃ k, k < 8 ∧ g.1 8 h = nI k) (h0 : 0 ≤ tm.toInt) (h1 : tm.toInt ≤ to.toInt) (h2 : to.toInt ≤ 4000000) : mGone (kPs (iL g 1 6 (g.2.1 1 6 + x.toInt64 * (g.1 2 6).toInt64)) n tm to 8) x 6 = mRoot (mGone g x 7) n tm to := by
  have Ha : BInv (iL g 1 6 (g.2.1 1 6 + x.toInt64 * (g.1 2 6).toInt64)) n := H
  have La : LvOk (iL g 1 6 (g.2.1 1 6 + x.toInt64 * (g.1 2 6).toInt64)) n tm.toInt := ⟨fun k hk => by
    rw [smI_eq (g := g) (q := iL g 1 6 _) rfl (fun _ _ _ => rfl)]; exact L.1 k hk, L.2⟩
  rw [kPs_mRoot hn Ha La hky h0 h1 h2]
  obtain ⟨b1, b2, b3, b4⟩ := mGone_1 g x 7
  have Hb : BInv (mGone g x 7) n := H.same (by rw [b1]) (by rw [b1]) (b2 5 (by decide)) (by rw [b1]) (by rw [b1])
  have Lb : LvOk (mGone g x 7) n tm.toInt := ⟨fun k hk => by
    rw [smI_eq (g := g) (by rw [b1]) (fun _ _ _ => by rw [b1]), b1, b2 5 (by decide)]; exact L.1 k hk, fun h hh z => by rw [b1] at z ⊢; exact L.2 h hh z⟩
  obtain ⟨r1, r2, r3, r4, r5, r6, r7⟩ := mRoot_R hn Ha La h0 h1 h2
  obtain ⟨t1, t2, t3, t4, t5, t6, t7⟩ := mRoot_R hn Hb Lb h0 h1 h2
  obtain ⟨c1, c2, c3, c4⟩ := mGone_1 (mRoot (iL g 1 6 (g.2.1 1 6 + x.toInt64 * (g.1 2 6).toInt64)) n tm to) x 6
  refine MS_ext (fun j i => ?_) (fun j i => ?_) (fun f => by rw [c3, r3, t3, b3]; rfl)
  · rw [c1]
    by_cases e : j = 9
    · subst e; rw [r7, t7, b1]; rfl
    · rw [r1 j e, t1 j e, b1]; rfl
  · by_cases e : j = 5
    · subst e
      rw [c2 5 (by decide)]
      by_cases z : i < 8
      · refine Int64.toInt_inj.mp ((r5 i z).trans ((lvI_eq (g := mGone g x 7) ?_ ?_ ?_ ?_ ?_ ?_ _).trans (t5 i z).symm)) <;> first | exact fun _ _ _ => by rw [b1]; rfl | (rw [b1]; rfl) | (rw [b2 5 (by decide)]; rfl)
      · rw [r6 i (by omega), t6 i (by omega), b2 5 (by decide)]; rfl
    · by_cases e1 : j = 1
      · subst e1
        rw [c4, t2 1 (by decide), r2 1 (by decide), r1 2 (by decide), b4]
        by_cases z : i < 6
        · rw [if_pos z, if_pos (by omega), iL_o (by omega)]; rfl
        · rw [if_neg z]
          by_cases y : i = 6
          · subst y; rw [if_pos (by omega)]; exact iL_s
          · rw [if_neg (by omega)]; exact iL_o y
      · rw [c2 j e1, r2 j e, t2 j e, b2 j e1]; exact congrFun (va_up_ne _ _ e1) i
