/-! the root: answers -/
def frg (S : PS) (y : Nat → Nat) (gt : Nat) : Nat → PS
  | 0 => S
  | j + 1 => sR (frg S y gt j) 3 (y (300 + (8 * gt + j))) none
theorem frg_lay {S : PS} {y : Nat → Nat} {gt : Nat} (h : Lay S y) : ∀ j, Lay (frg S y gt j) y := by
  intro j
  induction j with
  | zero => exact h
  | succ j ih => exact ih
theorem frg_t (S : PS) (y : Nat → Nat) (gt a i : Nat) (v : Int32) : ∀ j, frg (tI S a i v) y gt j = tI (frg S y gt j) a i v := by
  intro j
  induction j with
  | zero => rfl
  | succ j ih => rw [frg, frg, ih]; rfl
theorem frg_cf {S : PS} {y : Nat → Nat} {gt : Nat} (h : Lay S y) (hg : gt < 6) : ∀ j, j ≤ 8 → CF S (frg S y gt j) y := by
  intro j
  induction j with
  | zero => intro _; exact CF.rf
  | succ j ih => intro hj; exact (ih (by omega)).sR ((frg_lay h j).ck (8 * gt + j) (by omega)) (by decide)
theorem frg_cr {S : PS} {y : Nat → Nat} {dE : Nat} {g : MS} {c : CS} {gt : Nat} (h : CR S y dE g c) (hg : gt < 6) : ∀ j, j ≤ 8 → CR (frg S y gt j) y dE (mForget g gt j) c := by
  intro j
  induction j with
  | zero => intro _; exact h
  | succ j ih => intro hj; exact (ih (by omega)).forget hg (by omega)
theorem mForget_13 (g : MS) (gt : Nat) : ∀ j i, (mForget g gt j).1 13 i = if 8 * gt ≤ i ∧ i < 8 * gt + j then -1 else g.1 13 i := by
  intro j
  induction j with
  | zero => intro i; rw [if_neg (fun q => by omega)]; rfl
  | succ j ih =>
    intro i
    rw [mForget]
    by_cases e : i = 8 * gt + j
    · rw [if_pos ⟨by omega, by omega⟩, e]; exact iI_s
    · rw [iI_o e, ih]
      by_cases z : 8 * gt ≤ i ∧ i < 8 * gt + j
      · rw [if_pos z, if_pos ⟨z.1, by omega⟩]
      · rw [if_neg z, if_neg (fun q => z ⟨q.1, by omega⟩)]
theorem mForget_12 (g : MS) (gt i : Nat) (v : Int32) : ∀ j, mForget (iI g 12 i v) gt j = iI (mForget g gt j) 12 i v := by
  intro j
  induction j with
  | zero => rfl
  | succ j ih => rw [mForget, mForget, ih]; exact iI_comm (by decide)
theorem mForget_j (g : MS) (gt : Nat) {f : Nat} (h : f ≠ 13) : ∀ j, (mForget g gt j).1 f = g.1 f := by
  intro j
  induction j with
  | zero => rfl
  | succ j ih => rw [mForget, iI_j h]; exact ih
theorem mForget_2 (g : MS) (gt j : Nat) : (mForget g gt j).2 = g.2 := by
  induction j with
  | zero => rfl
  | succ j ih => exact ih
theorem hear_cr {S : PS} {y : Nat → Nat} {dE : Nat} {g : MS} {c : CS} {gt : Nat} {b : Int32} (h : CR S y dE g c) (hg : gt < 6) : CR (frg (tI S (y 7) gt b) y gt 8) y dE (mForget (iI g 12 gt b) gt 8) c := by
  rw [frg_t, mForget_12]
  exact (frg_cr h hg 8 (Nat.le_refl _)).whb (fun k hk => by rw [mForget_13, if_pos ⟨by omega, by omega⟩])
theorem mHear_j (g : MS) (gt : Nat) (b : Int32) {f : Nat} (h1 : f ≠ 12) (h2 : f ≠ 13) : (mHear g gt b).1 f = g.1 f := by
  unfold mHear
  split
  · rw [mForget_j _ _ h2, iI_j h1]
  · rfl
theorem mHear_2 (g : MS) (gt : Nat) (b : Int32) : (mHear g gt b).2 = g.2 := by
  unfold mHear
  split
  · exact mForget_2 _ _ _
  · rfl
/-- the share of a gate that asks is not more than what is free -/
theorem mSumW_ge {g : MS} (hw : WOk g) {kk : Nat} (hk : kk < 8) (now : Int32) {gt : Nat} (ha : ¬ g.1 17 (8 * gt + kk) = 0) (hb : now - g.1 18 (8 * gt + kk) < 1000) (m : Nat) (hm : m ≤ 6) (hg : gt < m) : (g.1 19 (8 * gt + kk)).toInt ≤ (mSumW g kk now m).toInt := by
  induction m with
  | zero => omega
  | succ j ih =>
    have h1 := mSumW_b hw hk now j (by omega)
    have h2 := hw (8 * j + kk) (by omega)
    rw [mSumW]
    by_cases e : gt = j
    · subst e
      rw [if_pos ⟨ha, hb⟩, i32_add (by omega) (by omega)]; omega
    · have h3 := ih (by omega) (by omega)
      split
      · rw [i32_add (by omega) (by omega)]; omega
      · exact h3
theorem free_same {x : Int64} (h1 : 0 ≤ x.toInt) (h2 : x.toInt ≤ 1000000000) : x.toInt32 / 1000 = (x / 1000).toInt32 ∧ 0 ≤ ((x / 1000).toInt32).toInt ∧ ((x / 1000).toInt32).toInt ≤ 1000000 := by
  have e0 : (1000 : Int32).toInt = 1000 := by decide
  have e1 : (1000 : Int64).toInt = 1000 := by decide
  have a : x.toInt32.toInt = x.toInt := by rw [Int64.toInt_toInt32]; exact Int.bmod_eq_of_le (by omega) (by omega)
  have b : (x / 1000).toInt = x.toInt / 1000 := by
    rw [Int64.toInt_div, e1, Int.tdiv_eq_ediv_of_nonneg h1]; exact Int.bmod_eq_of_le (by omega) (by omega)
  have c : (x / 1000).toInt32.toInt = x.toInt / 1000 := by
    rw [Int64.toInt_toInt32, b]; exact Int.bmod_eq_of_le (by omega) (by omega)
  refine ⟨Int32.toInt_inj.mp ?_, by omega, by omega⟩
  rw [c, Int32.toInt_div, e0, a, Int.tdiv_eq_ediv_of_nonneg h1]; exact Int.bmod_eq_of_le (by omega) (by omega)
theorem share_le {f w z : Int32} (h1 : 0 ≤ f.toInt) (h2 : f.toInt ≤ 1000000) (h3 : 1 ≤ w.toInt) (h4 : w.toInt ≤ 100) (h5 : w.toInt ≤ z.toInt) : 0 ≤ (f * w / z).toInt ∧ (f * w / z).toInt ≤ f.toInt := by
  have u : f.toInt * w.toInt ≤ 1000000 * 100 := Int.mul_le_mul h2 h4 (by omega) (by omega)
  have l : 0 ≤ f.toInt * w.toInt := Int.mul_nonneg h1 (by omega)
  have e : (f * w).toInt = f.toInt * w.toInt := i32_mul (by omega) (by omega)
  have d : f.toInt * w.toInt / z.toInt ≤ f.toInt := by
    refine Int.ediv_le_of_le_mul (by omega) ?_
    exact Int.mul_le_mul_of_nonneg_left h5 h1
  have d0 : 0 ≤ f.toInt * w.toInt / z.toInt := Int.ediv_nonneg l (by omega)
  rw [Int32.toInt_div, e, Int.tdiv_eq_ediv_of_nonneg l, Int.bmod_eq_of_le (by omega) (by omega)]
  exact ⟨d0, d⟩
/-- the same tokens are granted -/
theorem gets_same {g : MS} {n gt kk : Nat} {tok : Int32} (hw : WOk g) (hI : BInv g n) (hg : gt < 6) (hk : kk < 8) (h : ¬ tok ≤ mFree g kk) : 1 ≤ (mSumW (mAn1 g gt kk) kk (mClk g 6) 6).toInt ∧ mGets g gt kk tok = mFree g kk * (mAn1 g gt kk).1 19 (8 * gt + kk) / mSumW (mAn1 g gt kk) kk (mClk g 6) 6 := by
  have b := (hI.1 kk hk).2.2
  have f := free_same b.1 b.2
  have a1 : ¬ (mAn1 g gt kk).1 17 (8 * gt + kk) = 0 := by simp [mAn1, iI, va_up]
  have a2 : mClk g 6 - (mAn1 g gt kk).1 18 (8 * gt + kk) < 1000 := by simp [mAn1, iI, va_up]
  have p := mSumW_p (mAn1_w hw gt kk) hk (mClk g 6) a1 a2 6 (by omega) hg
  have q := mSumW_ge (mAn1_w hw gt kk) hk (mClk g 6) a1 a2 6 (by omega) hg
  have wv := (mAn1_w hw gt kk) (8 * gt + kk) (by omega)
  refine ⟨p, ?_⟩
  have s := share_le (f := mFree g kk) (w := (mAn1 g gt kk).1 19 (8 * gt + kk)) (z := mSumW (mAn1 g gt kk) kk (mClk g 6) 6) f.2.1 f.2.2 wv.1 wv.2 q
  unfold mGets
  rw [if_neg h, if_pos]
  rw [Int32.lt_iff_toInt_lt]
  have h2 := Int32.not_le.mp h
  rw [Int32.lt_iff_toInt_lt] at h2
  omega
theorem gets_range {g : MS} {n gt kk : Nat} {tok : Int32} (hw : WOk g) (hI : BInv g n) (hg : gt < 6) (hk : kk < 8) (ht : 0 < tok.toInt) : 0 ≤ (mGets g gt kk tok).toInt ∧ (mGets g gt kk tok).toInt ≤ (mFree g kk).toInt ∧ (mFree g kk).toInt ≤ 1000000 := by
  have b := (hI.1 kk hk).2.2
  have f := free_same b.1 b.2
  by_cases h : tok ≤ mFree g kk
  · unfold mGets
    rw [if_pos h]
    rw [Int32.le_iff_toInt_le] at h
    exact ⟨by omega, h, f.2.2⟩
  · rw [(gets_same hw hI hg hk h).2]
    have a1 : ¬ (mAn1 g gt kk).1 17 (8 * gt + kk) = 0 := by simp [mAn1, iI, va_up]
    have a2 : mClk g 6 - (mAn1 g gt kk).1 18 (8 * gt + kk) < 1000 := by simp [mAn1, iI, va_up]
    have q := mSumW_ge (mAn1_w hw gt kk) hk (mClk g 6) a1 a2 6 (by omega) hg
    have wv := (mAn1_w hw gt kk) (8 * gt + kk) (by omega)
    have s := share_le (f := mFree g kk) (w := (mAn1 g gt kk).1 19 (8 * gt + kk)) (z := mSumW (mAn1 g gt kk) kk (mClk g 6) 6) f.2.1 f.2.2 wv.1 wv.2 q
    exact ⟨s.1, s.2, f.2.2⟩
/-- the class's side of an answer: all but the answer itself -/
def kAns (g : MS) (n gt kk : Nat) (gets : Int32) : MS := if 0 < gets then iF (kLend (mAn1 g gt kk) n kk gets (mClk g 6 + g.2.2 1111)) 1107 (nI (n + 1)) else mAn1 g gt kk
def kNum (n : Nat) (gets : Int32) : Int32 := if 0 < gets then nI n else -1
def kN (n : Nat) (gets : Int32) : Nat := if 0 < gets then n + 1 else n
theorem kLend_f (g : MS) (n k : Nat) (a b : Int32) (f : Nat) (v : Int32) : kLend (iF g f v) n k a b = iF (kLend g n k a b) f v := rfl
theorem MS_pair {g g2 : MS} (h1 : g2.1 = g.1) (h2 : g2.2.1 = g.2.1) (h3 : g2.2.2 = g.2.2) : g2 = g := Prod.ext h1 (Prod.ext h2 h3)
theorem mSG_if (g : MS) (gt kk : Nat) : mSG g gt kk = mPostIf g 1 (nI gt) (nI kk) (g.1 15 (8 * gt + kk)) (g.1 12 gt) (g.1 13 (8 * gt + kk)) (g.1 14 (8 * gt + kk)) (g.1 16 (8 * gt + kk)) := by
  unfold mSG mSend mPostIf
  by_cases h : mqN g = 300
  · rw [if_pos h, if_pos h, if_neg (show ¬ (0 : Int32) < 0 by decide)]
  · rw [if_neg h, if_neg h, if_pos (show (0 : Int32) < 1 by decide)]
    exact mPost_7 _ _ _ _ _ _ _ _ _ _
/-- behind the answer: the reference's state -/
theorem answer_same {g : MS} {n gt kk : Nat} {gets count : Int32} (h0 : 0 ≤ gets.toInt) : mAnswerX g n gt kk gets count = iI (iI (iI (iI (kAns g n gt kk gets) 13 (8 * gt + kk) count) 15 (8 * gt + kk) gets) 16 (8 * gt + kk) (g.2.2 1111)) 14 (8 * gt + kk) (kNum n gets) := by
  unfold mAnswerX kAns kNum
  by_cases h : 0 < gets
  · rw [if_pos h, if_pos h, if_pos h]
    unfold mAn3 mAn2 kLend
    refine MS_ext (fun j i => ?_) (fun j i => rfl) (fun f => rfl)
    show (iI (iI (iI (iI (iI (iI (iI (iI (mAn1 g gt kk) 13 (8 * gt + kk) count) 15 (8 * gt + kk) gets) 16 (8 * gt + kk) (g.2.2 1111)) 14 (8 * gt + kk) (-1)) 14 (8 * gt + kk) (nI n)) 8 n (nI kk)) 9 n gets) 10 n (mClk g 6 + g.2.2 1111)).1 j i = (iI (iI (iI (iI (iI (iI (iI (mAn1 g gt kk) 8 n (nI kk)) 9 n gets) 10 n (mClk g 6 + g.2.2 1111)) 13 (8 * gt + kk) count) 15 (8 * gt + kk) gets) 16 (8 * gt + kk) (g.2.2 1111)) 14 (8 * gt + kk) (nI n)).1 j i
    generalize mAn1 g gt kk = q
    by_cases e8 : j = 8
    · subst e8; simp [iI, va_up]
    · by_cases e9 : j = 9
      · subst e9; simp [iI, va_up]
      · by_cases e10 : j = 10
        · subst e10; simp [iI, va_up]
        · rw [iI_j e10, iI_j e9, iI_j e8]
          by_cases e13 : j = 13
          · subst e13; simp [iI, va_up]
          · by_cases e14 : j = 14
            · subst e14; simp [iI, va_up]; by_cases z : i = 8 * gt + kk <;> simp [z]
            · by_cases e15 : j = 15
              · subst e15; simp [iI, va_up]
              · by_cases e16 : j = 16
                · subst e16; simp [iI, va_up]
                · rw [iI_j e14, iI_j e14, iI_j e16, iI_j e15, iI_j e13, iI_j e14, iI_j e16, iI_j e15, iI_j e13, iI_j e10, iI_j e9, iI_j e8]
  · rw [if_neg h, if_neg h, if_neg h]
    have z : gets = 0 := by
      refine Int32.toInt_inj.mp ?_
      rw [Int32.lt_iff_toInt_lt] at h
      have : (0 : Int32).toInt = 0 := rfl
      omega
    subst z
    unfold mAn2
    have e : iL (mAn1 g gt kk) 5 kk (g.2.1 5 kk - 1000 * (0 : Int32).toInt64) = mAn1 g gt kk := by
      refine MS_ext (fun j i => rfl) (fun j i => ?_) (fun f => rfl)
      by_cases e5 : j = 5
      · subst e5
        by_cases e6 : i = kk
        · subst e6; rw [iL_s]; show g.2.1 5 i - 1000 * 0 = g.2.1 5 i; rw [Int64.mul_zero, Int64.sub_zero]
        · rw [iL_o e6]
      · show va_up (mAn1 g gt kk).2.1 5 (va_up ((mAn1 g gt kk).2.1 5) kk (g.2.1 5 kk - 1000 * (0 : Int32).toInt64)) j i = _
        rw [va_up_ne _ _ e5]
    rw [e]
theorem CanB.same {c : CS} {g g2 : MS} {n : Nat} (h : CanB c g n) (h8 : g2.1 8 = g.1 8) (h9 : g2.1 9 = g.1 9) : CanB c g2 n := by
  intro k hk
  have e : lsB g2 k n = lsB g k n := fil_congr (fun x _ => by unfold lsP; rw [h8, h9])
  have e2 : mLt g2 k n = mLt g k n := by show mLent (g2.1 8) (g2.1 9) _ n = _; rw [h8, h9]
  rw [e, e2]; exact h k hk
theorem BInv.same {g g2 : MS} {n : Nat} (h : BInv g n) (h3 : g2.1 3 = g.1 3) (h4 : g2.1 4 = g.1 4) (h5 : g2.2.1 5 = g.2.1 5) (h9 : g2.1 9 = g.1 9) (h10 : g2.1 10 = g.1 10) : BInv g2 n := by
  unfold BInv at *
  rw [h3, h4, h5, h9, h10]; exact h
