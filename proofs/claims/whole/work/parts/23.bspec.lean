/-! the root's buckets -/
abbrev lsP (g : MS) (k h : Nat) : Prop := g.1 8 h = nI k ∧ ¬ g.1 9 h = 0
theorem iI9 {g : MS} {h x : Nat} {v : Int32} : (iI g 9 h v).1 9 x = if x = h then v else g.1 9 x := by
  by_cases e : x = h
  · rw [if_pos e, e]; exact iI_s
  · rw [if_neg e]; exact iI_o e
/-- the loans of a bucket that are not over -/
def lsB (g : MS) (k n : Nat) : List Nat := fil (lsP g k) n
abbrev mLt (g : MS) (k n : Nat) : Int32 := mLent (g.1 8) (g.1 9) (nI k) n
def CanB (c : CS) (g : MS) (n : Nat) : Prop := ∀ k, k < 8 → cQl c k = lsB g k n ∧ cE c k = mLt g k n
theorem CanB.no {c : CS} {g : MS} {n : Nat} (h : CanB c g n) {x : Nat} (hx : n ≤ x) : ∀ i, i < 8 → x ∉ cQl c i := fun i hi z => by
  rw [(h i hi).1] at z
  exact absurd (mem_fil.mp z).1 (by omega)
theorem nI_ne {a b : Nat} (ha : a < 300) (hb : b < 300) (h : a ≠ b) : nI a ≠ nI b := fun e => h (nI_ij e ha hb)
theorem mLent_up (lk lt : Nat → Int32) (key : Int32) (h : Nat) (v : Int32) : ∀ n, mLent lk (va_up lt h v) key n = if h < n ∧ lk h = key then mLent lk lt key n - lt h + v else mLent lk lt key n := by
  intro n
  induction n with
  | zero => rw [if_neg (fun z => absurd z.1 (Nat.not_lt_zero _))]; rfl
  | succ n ih =>
    rw [mLent, mLent]
    by_cases k : lk n = key
    · rw [if_pos k, if_pos k, ih]
      by_cases e : n = h
      · subst e
        rw [up_same, if_neg (fun z => absurd z.1 (Nat.lt_irrefl _)), if_pos ⟨Nat.lt_succ_self _, k⟩]
        grind
      · rw [va_up_ne _ _ e]
        by_cases z : h < n ∧ lk h = key
        · rw [if_pos z, if_pos ⟨by omega, z.2⟩]; grind
        · rw [if_neg z, if_neg (fun q => z ⟨by omega, q.2⟩)]
    · rw [if_neg k, if_neg k, ih]
      by_cases z : h < n ∧ lk h = key
      · rw [if_pos z, if_pos ⟨by omega, z.2⟩]
      · rw [if_neg z, if_neg (fun q => z ⟨by have : h ≠ n := fun e => k (by rw [← e]; exact q.2); omega, q.2⟩)]
theorem mLent_key (lk lt : Nat → Int32) (key : Int32) (h : Nat) (v : Int32) : ∀ n, n ≤ h → mLent (va_up lk h v) lt key n = mLent lk lt key n := by
  intro n
  induction n with
  | zero => intro _; rfl
  | succ n ih => intro hn; rw [mLent, mLent, ih (by omega), va_up_ne _ _ (by omega)]
theorem mLt_9 {g : MS} {k n h : Nat} {v : Int32} : mLt (iI g 9 h v) k n = if h < n ∧ g.1 8 h = nI k then mLt g k n - g.1 9 h + v else mLt g k n := by
  show mLent (g.1 8) ((iI g 9 h v).1 9) (nI k) n = _
  rw [show (iI g 9 h v).1 9 = va_up (g.1 9) h v from funext fun x => by rw [iI9]; rfl]
  exact mLent_up _ _ _ _ _ _
/-- a loan is over -/
theorem CanB.close {c c2 : CS} {g : MS} {n k j h : Nat} (H : CanB c g n) (hk : k < 8) (hn : n ≤ 300) (hj : (lsB g k n)[j]? = some h) (e1 : cQl c2 = va_up (cQl c) k ((lsB g k n).eraseIdx j)) (e2 : cE c2 = va_up (cE c) k (cE c k - g.1 9 h)) : CanB c2 (iI g 9 h 0) n ∧ ∀ i, i < 8 → h ∉ cQl c2 i := by
  have hm := mem_fil.mp (List.mem_of_getElem? hj)
  have eq : ∀ i, i < 8 → cQl c2 i = lsB (iI g 9 h 0) i n := by
    intro i hi
    rw [e1]
    by_cases e : i = k
    · subst e
      rw [up_same]
      refine (fil_erase (fun x hx => ?_) hj).symm
      unfold lsP
      rw [show (iI g 9 h 0).1 8 x = g.1 8 x from rfl, iI9]
      by_cases z : x = h
      · subst z; rw [if_pos rfl]; exact ⟨fun q => absurd rfl q.2, fun q => absurd rfl q.2⟩
      · rw [if_neg z]; exact ⟨fun q => ⟨q, z⟩, fun q => q.1⟩
    · rw [va_up_ne _ _ e, (H i hi).1]
      refine fil_congr (fun x hx => ?_)
      unfold lsP
      rw [show (iI g 9 h 0).1 8 x = g.1 8 x from rfl, iI9]
      by_cases z : x = h
      · subst z
        have : ¬ g.1 8 x = nI i := fun q => nI_ne (by omega) (by omega) e (q.symm.trans hm.2.1)
        exact ⟨fun q => absurd q.1 this, fun q => absurd q.1 this⟩
      · rw [if_neg z]
  refine ⟨fun i hi => ⟨eq i hi, ?_⟩, fun i hi z => ?_⟩
  · rw [e2, mLt_9]
    by_cases e : i = k
    · subst e
      rw [up_same, if_pos ⟨hm.1, hm.2.1⟩, (H i hi).2]
      exact (Int32.add_zero _).symm
    · rw [va_up_ne _ _ e, if_neg (fun q => nI_ne (by omega) (by omega) e (q.2.symm.trans hm.2.1))]
      exact (H i hi).2
  · rw [eq i hi] at z
    have := (mem_fil.mp z).2.2
    rw [iI9, if_pos rfl] at this
    exact this rfl
/-- numbers of the root: rates, limits, levels, loans -/
def BInv (g : MS) (n : Nat) : Prop := (∀ k, k < 8 → (0 ≤ (g.1 3 k).toInt ∧ (g.1 3 k).toInt ≤ 100000) ∧ (0 ≤ (g.1 4 k).toInt ∧ (g.1 4 k).toInt ≤ 1000000) ∧ 0 ≤ (g.2.1 5 k).toInt ∧ (g.2.1 5 k).toInt ≤ 1000000000) ∧ ∀ h, h < n → (0 ≤ (g.1 9 h).toInt ∧ (g.1 9 h).toInt ≤ 1000000) ∧ 0 ≤ (g.1 10 h).toInt ∧ (g.1 10 h).toInt ≤ 4000000
theorem mLent_I {lk lt : Nat → Int32} {key : Int32} {n : Nat} (hn : n ≤ 300) (h : ∀ x, x < n → 0 ≤ (lt x).toInt ∧ (lt x).toInt ≤ 1000000) : ∀ m, m ≤ n → 0 ≤ (mLent lk lt key m).toInt ∧ (mLent lk lt key m).toInt ≤ 1000000 * m := by
  intro m
  induction m with
  | zero => intro _; exact ⟨Int.le_refl _, Int.le_refl _⟩
  | succ m ih =>
    intro hm
    have a := ih (by omega)
    have b := h m (by omega)
    rw [mLent]
    split
    · rw [i32_add (by omega) (by omega)]; omega
    · omega
theorem BInv.lt {g : MS} {n k : Nat} (h : BInv g n) (hn : n ≤ 300) : 0 ≤ (mLt g k n).toInt ∧ (mLt g k n).toInt ≤ 300000000 := by
  have := mLent_I (lk := g.1 8) (lt := g.1 9) (key := nI k) hn (fun x hx => (h.2 x hx).1) n (Nat.le_refl _)
  show 0 ≤ (mLent (g.1 8) (g.1 9) (nI k) n).toInt ∧ (mLent (g.1 8) (g.1 9) (nI k) n).toInt ≤ 300000000
  omega
theorem i64_add {a b : Int64} (h1 : -9223372036854775808 ≤ a.toInt + b.toInt) (h2 : a.toInt + b.toInt < 9223372036854775808) : (a + b).toInt = a.toInt + b.toInt := by
  rw [Int64.toInt_add]
  exact Int.bmod_eq_of_le (by omega) (by omega)
theorem i64_mul {a b : Int64} (h1 : -9223372036854775808 ≤ a.toInt * b.toInt) (h2 : a.toInt * b.toInt < 9223372036854775808) : (a * b).toInt = a.toInt * b.toInt := by
  rw [Int64.toInt_mul]
  exact Int.bmod_eq_of_le (by omega) (by omega)
theorem most_I {g : MS} {n k : Nat} (h : BInv g n) (hn : n ≤ 300) (hk : k < 8) : (mMost g n k).toInt = 1000 * ((g.1 4 k).toInt - (mLt g k n).toInt) := by
  have a := h.lt (k := k) hn
  have b := (h.1 k hk).2.1
  unfold mMost
  have e : (g.1 4 k - mLt g k n).toInt = (g.1 4 k).toInt - (mLt g k n).toInt := i32_sub (by omega) (by omega)
  have e0 : (1000 : Int64).toInt = 1000 := by decide
  rw [i64_mul (by rw [e0, Int32.toInt_toInt64, e]; omega) (by rw [e0, Int32.toInt_toInt64, e]; omega), e0, Int32.toInt_toInt64, e]
theorem fillV_I (most lv : Int64) : (fillV most lv).toInt = max 0 (min lv.toInt most.toInt) := by
  unfold fillV
  have e0 : (0 : Int64).toInt = 0 := rfl
  by_cases a : lv < most
  · rw [if_pos a]
    rw [Int64.lt_iff_toInt_lt] at a
    by_cases b : 0 < lv
    · rw [if_pos b]; rw [Int64.lt_iff_toInt_lt] at b; omega
    · rw [if_neg b]; rw [Int64.lt_iff_toInt_lt] at b; omega
  · rw [if_neg a]
    rw [Int64.lt_iff_toInt_lt] at a
    by_cases b : 0 < most
    · rw [if_pos b]; rw [Int64.lt_iff_toInt_lt] at b; omega
    · rw [if_neg b]; rw [Int64.lt_iff_toInt_lt] at b; omega
/-- the class's way to fill is the reference's -/
theorem fill_same {most lv : Int64} (h : 0 ≤ lv.toInt) : lMin (lMax 0 most) lv = fillV most lv := by
  refine Int64.toInt_inj.mp ?_
  rw [fillV_I]
  have e0 : (0 : Int64).toInt = 0 := rfl
  unfold lMin lMax
  by_cases a : most < 0
  · rw [if_pos a]
    rw [Int64.lt_iff_toInt_lt] at a
    by_cases b : lv < 0
    · rw [Int64.lt_iff_toInt_lt] at b; omega
    · rw [if_neg b]; omega
  · rw [if_neg a]
    rw [Int64.lt_iff_toInt_lt] at a
    by_cases b : lv < most
    · rw [if_pos b]; rw [Int64.lt_iff_toInt_lt] at b; omega
    · rw [if_neg b]; rw [Int64.lt_iff_toInt_lt] at b; omega
theorem i64_32 {x : Int64} (h1 : -2147483648 ≤ x.toInt) (h2 : x.toInt < 2147483648) : x.toInt32.toInt64 = x := by
  refine Int64.toInt_inj.mp ?_
  rw [Int32.toInt_toInt64, Int64.toInt_toInt32]
  exact Int.bmod_eq_of_le (by omega) (by omega)
def kFill (g : MS) (n k : Nat) (x : Int64) : MS := mFill g n k (g.2.1 5 k + x)
theorem CR.fill {S : PS} {y : Nat → Nat} {dE : Nat} {g : MS} {c : CS} {n k : Nat} {x : Int64} (hC : CR S y dE g c) (hk : k < 8) (hB : CanB c g n) (hI : BInv g n) (hx : 0 ≤ (g.2.1 5 k + x).toInt) : CR (sI S 103 (y (40 + k)) (lMin (lMax 0 (1000 * (fI S 102 (y (40 + k)) - fI S 104 (y (40 + k))).toInt64)) ((fI S 103 (y (40 + k))).toInt64 + x)).toInt32) y dE (kFill g n k x) c := by
  refine hC.wb3 ?_
  have b := (hI.1 k hk).2.2
  rw [hC.1.b2 k hk, hC.1.b3 k hk, hC.1.b4 k hk, (hB k hk).2, i64_32 (by omega) (by omega), fill_same hx]
  rfl
theorem CanB.fill {c : CS} {g : MS} {n k : Nat} {x : Int64} (h : CanB c g n) : CanB c (kFill g n k x) n := h
theorem BInv.fill {g : MS} {n k : Nat} {x : Int64} (h : BInv g n) (hn : n ≤ 300) (hk : k < 8) : BInv (kFill g n k x) n := by
  refine ⟨fun i hi => ⟨(h.1 i hi).1, (h.1 i hi).2.1, ?_⟩, h.2⟩
  by_cases e : i = k
  · subst e
    rw [show (kFill g n i x).2.1 5 i = fillV (mMost g n i) (g.2.1 5 i + x) from iL_s, fillV_I, most_I h hn hk]
    have := (h.1 i hi).2.1
    have := h.lt (k := i) hn
    omega
  · rw [show (kFill g n k x).2.1 5 i = g.2.1 5 i from iL_o e]; exact (h.1 i hi).2.2
theorem BInv.z9 {g : MS} {n h : Nat} (H : BInv g n) : BInv (iI g 9 h 0) n := by
  refine ⟨H.1, fun x hx => ⟨?_, (H.2 x hx).2⟩⟩
  by_cases e : x = h
  · rw [e, iI_s]; decide
  · rw [iI_o e]; exact (H.2 x hx).1
/-! the loan that ends first -/
def eIx (g : MS) (L : List Nat) : Nat → Int32
  | 0 => -1
  | k + 1 => if eIx g L k = -1 ∨ g.1 10 (L.getD k 0) < g.1 10 (L.getD (eIx g L k).toNatClampNeg 0) then nI k else eIx g L k
theorem eIx_in (g : MS) (L : List Nat) : ∀ k, (k = 0 ∧ eIx g L k = -1) ∨ ∃ j, j < k ∧ eIx g L k = nI j := by
  intro k
  induction k with
  | zero => exact Or.inl ⟨rfl, rfl⟩
  | succ k ih =>
    rw [eIx]
    split
    · exact Or.inr ⟨k, Nat.lt_succ_self _, rfl⟩
    · rename_i z
      rcases ih with ⟨-, q⟩ | ⟨j, h1, h2⟩
      · exact absurd (Or.inl q) z
      · exact Or.inr ⟨j, by omega, h2⟩
theorem eIx_y1 {g : MS} {L : List Nat} {k : Nat} (z : eIx g L k = -1) : eIx g L (k + 1) = nI k := by rw [eIx, if_pos (Or.inl z)]
theorem eIx_y2 {g : MS} {L : List Nat} {k h j h1 : Nat} (hh : L[k]? = some h) (ej : eIx g L k = nI j) (hj : j < 2 ^ 31) (hh1 : L[j]? = some h1) (z2 : g.1 10 h < g.1 10 h1) : eIx g L (k + 1) = nI k := by
  rw [eIx, getD_of hh, if_pos (Or.inr (by rw [ej, nI_clamp hj, getD_of hh1]; exact z2))]
theorem eIx_n2 {g : MS} {L : List Nat} {k h j h1 : Nat} (hh : L[k]? = some h) (ej : eIx g L k = nI j) (hj : j < 2 ^ 31) (hn : ¬ nI j = -1) (hh1 : L[j]? = some h1) (z2 : ¬ g.1 10 h < g.1 10 h1) : eIx g L (k + 1) = nI j := by
  rw [eIx, getD_of hh, if_neg, ej]
  intro q
  rcases q with u | u
  · exact hn (ej.symm.trans u)
  · rw [ej, nI_clamp hj, getD_of hh1] at u; exact z2 u
/-- the loan at that place ends no later than any -/
theorem eIx_min {g : MS} {L : List Nat} (hl : L.length ≤ 400) : ∀ k, 0 < k → k ≤ L.length → ∃ j h, j < k ∧ L[j]? = some h ∧ eIx g L k = nI j ∧ ∀ i x, i < k → L[i]? = some x → g.1 10 h ≤ g.1 10 x := by
  intro k
  induction k with
  | zero => intro h; omega
  | succ k ih =>
    intro _ hk
    obtain ⟨h, hh⟩ : ∃ h, L[k]? = some h := ⟨_, List.getElem?_eq_getElem (by omega)⟩
    by_cases e : k = 0
    · subst e
      refine ⟨0, h, by omega, hh, eIx_y1 rfl, fun i x hi hx => ?_⟩
      obtain rfl : i = 0 := by omega
      rw [Option.some.inj (hh.symm.trans hx)]
      exact Int32.le_refl _
    · obtain ⟨j, h1, a1, a2, a3, a4⟩ := ih (by omega) (by omega)
      have hn : ¬ nI j = -1 := fun e => by have := nI_pos (n := j) (by omega); rw [e] at this; exact this (by decide)
      by_cases y : g.1 10 h < g.1 10 h1
      · refine ⟨k, h, by omega, hh, eIx_y2 hh a3 (by omega) a2 y, fun i x hi hx => ?_⟩
        by_cases e2 : i = k
        · subst e2; rw [Option.some.inj (hh.symm.trans hx)]; exact Int32.le_refl _
        · exact Int32.le_trans (Int32.le_of_lt y) (a4 i x (by omega) hx)
      · refine ⟨j, h1, by omega, a2, eIx_n2 hh a3 (by omega) hn a2 y, fun i x hi hx => ?_⟩
        by_cases e2 : i = k
        · subst e2; rw [← Option.some.inj (hh.symm.trans hx)]; exact Int32.not_lt.mp y
        · exact a4 i x (by omega) hx
abbrev eH (g : MS) (L : List Nat) : Nat := L.getD (eIx g L L.length).toNatClampNeg 0
theorem eH_of {g : MS} {L : List Nat} {j h : Nat} (a1 : eIx g L L.length = nI j) (a2 : L[j]? = some h) (hj : j < 2 ^ 31) : eH g L = h := by
  show L.getD (eIx g L L.length).toNatClampNeg 0 = h
  rw [a1, nI_clamp hj]; exact getD_of a2
/-- time goes on at a bucket -/
def kPassD (n k : Nat) (to : Int32) : Nat → MS → Int32 → MS
  | 0, g, at_ => kFill g n k ((g.1 3 k).toInt64 * (to - at_).toInt64)
  | d + 1, g, at_ =>
    if lsB g k n = [] ∨ to < g.1 10 (eH g (lsB g k n)) then kFill g n k ((g.1 3 k).toInt64 * (to - at_).toInt64)
    else kPassD n k to d (iI (kFill g n k ((g.1 3 k).toInt64 * (g.1 10 (eH g (lsB g k n)) - 1 - at_).toInt64)) 9 (eH g (lsB g k n)) 0) (g.1 10 (eH g (lsB g k n)) - 1)
def kPass (g : MS) (n k : Nat) (tm to : Int32) : MS := kPassD n k to (lsB g k n).length g tm
