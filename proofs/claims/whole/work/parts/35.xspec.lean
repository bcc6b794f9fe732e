/-! the public methods: what is to be shown -/
theorem rgK {k : Nat} (h : k < 8) : (0 : Int32) ≤ nI k ∧ nI k ≤ 7 := ⟨nI_pos' (by omega), (nI_leI (a := k) (b := 7) (by omega) (by omega)).mpr (by omega)⟩
theorem rgG {k : Nat} (h : k < 6) : (0 : Int32) ≤ nI k ∧ nI k ≤ 5 := ⟨nI_pos' (by omega), (nI_leI (a := k) (b := 5) (by omega) (by omega)).mpr (by omega)⟩
theorem rg3 {k : Nat} (h : k < 4) : (0 : Int32) ≤ nI k ∧ nI k ≤ 3 := ⟨nI_pos' (by omega), (nI_leI (a := k) (b := 3) (by omega) (by omega)).mpr (by omega)⟩
theorem rg6 {k : Nat} (h : k < 7) : (0 : Int32) ≤ nI k ∧ nI k ≤ 6 := ⟨nI_pos' (by omega), (nI_leI (a := k) (b := 6) (by omega) (by omega)).mpr (by omega)⟩
theorem rgN {k : Nat} (h : k < 6) : (-1 : Int32) ≤ nI k ∧ nI k ≤ 5 := ⟨Int32.le_trans (by decide) (rgG h).1, (rgG h).2⟩
theorem leI {a b : Int32} (h : a ≤ b) : a.toInt ≤ b.toInt := Int32.le_iff_toInt_le.mp h
/-- a number within its limits, as a number of places -/
theorem nI_lim {x M : Int32} {n : Nat} (hM : M.toInt = n) (h : 0 ≤ x ∧ x ≤ M) : ∃ j : Nat, j < n + 1 ∧ x = nI j := by
  obtain ⟨j, h1, h2⟩ := nI_of2 (x := x) (M := M) (n := n) hM (Int32.not_lt.mpr h.1) h.2
  exact ⟨j, by omega, h2⟩
theorem mTkX_a {g : MS} {n gt kk : Nat} {x : Int32} (h : (mSpend g n gt kk x).2 = 0) : mTkOk g n gt kk x = mSpend g n gt kk x := by
  unfold mSpend at h
  unfold mTkOk mSpend
  by_cases z : mLiveSum (iI g 22 (8 * gt + kk) (g.1 22 (8 * gt + kk) + x)) gt kk n < x
  · rw [if_pos z, if_pos z]
  · rw [if_neg z] at h; exact absurd h (show ¬ (1 : Int32) = 0 by decide)
theorem mTkX_b {g : MS} {n gt kk : Nat} {x : Int32} (h : ¬ (mSpend g n gt kk x).2 = 0) : mTkOk g n gt kk x = (iI (mSpend g n gt kk x).1 6 kk ((mSpend g n gt kk x).1.1 6 kk + x), (mSpend g n gt kk x).2) := by
  unfold mSpend at h
  unfold mTkOk mSpend
  by_cases z : mLiveSum (iI g 22 (8 * gt + kk) (g.1 22 (8 * gt + kk) + x)) gt kk n < x
  · rw [if_pos z] at h; exact absurd rfl h
  · rw [if_neg z, if_neg z]
/-- how many messages a call has sent -/
theorem mSend_cnt {g : MS} (hm : MsgOk g) (x0 x1 x2 x3 x4 x5 x6 : Int32) : (mSend g x0 x1 x2 x3 x4 x5 x6).2 = (mSend g x0 x1 x2 x3 x4 x5 x6).1.2.2 1131 - g.2.2 1131 ∧ MsgOk (mSend g x0 x1 x2 x3 x4 x5 x6).1 := by
  have h2 := hm.2
  refine ⟨?_, by rw [mSend_post]; exact (post_ext hm _ _ _ _ _ _ _ _).1.2.2.2.1⟩
  unfold mSend
  by_cases z : mqN g = 300
  · rw [if_pos z]; exact (Int32.sub_self _).symm
  · rw [if_neg z, show (mSendG g (mqN g) x0 x1 x2 x3 x4 x5 x6).2.2 1131 = nI (mqN g + 1) from iF_s, hm.1, ← nI_add]
    show (1 : Int32) = nI (mqN g) + 1 - nI (mqN g)
    rw [Int32.add_comm, Int32.add_sub_cancel]
theorem sub_tr (a b c : Int32) : (b - a) + (c - b) = c - a := by
  rw [Int32.sub_eq_add_neg, Int32.sub_eq_add_neg, Int32.sub_eq_add_neg, Int32.add_comm b (-a), Int32.add_assoc, ← Int32.add_assoc b c (-b), Int32.add_comm b c, Int32.add_assoc c b (-b), Int32.add_right_neg, Int32.add_zero, Int32.add_comm]
theorem mGB_cnt {g : MS} (hm : MsgOk g) (gt kk : Nat) : ∀ m, (mGB g gt kk m).2 = (mGB g gt kk m).1.2.2 1131 - g.2.2 1131 ∧ MsgOk (mGB g gt kk m).1 := by
  intro m
  induction m with
  | zero => exact ⟨(Int32.sub_self _).symm, hm⟩
  | succ h ih =>
    obtain ⟨i1, i2⟩ := ih
    rw [mGB]
    split
    · split
      · split
        · obtain ⟨s1, s2⟩ := mSend_cnt (g := iI (mGB g gt kk h).1 27 h 0) i2 2 (nI gt) (nI kk) ((mGB g gt kk h).1.1 28 h) ((mGB g gt kk h).1.1 20 gt) (-1) (nI h)
          refine ⟨?_, s2⟩
          show (mGB g gt kk h).2 + (mSend (iI (mGB g gt kk h).1 27 h 0) 2 (nI gt) (nI kk) ((mGB g gt kk h).1.1 28 h) ((mGB g gt kk h).1.1 20 gt) (-1) (nI h)).2 = _
          rw [s1, i1]; exact sub_tr _ _ _
        · exact ⟨i1, i2⟩
      · exact ⟨i1, i2⟩
    · exact ⟨i1, i2⟩
theorem mWorkN_cnt {g : MS} (hm : MsgOk g) (gt n : Nat) : ∀ m, (mWorkN g gt n m).2 = (mWorkN g gt n m).1.2.2 1131 - g.2.2 1131 ∧ MsgOk (mWorkN g gt n m).1 := by
  intro m
  induction m with
  | zero => exact ⟨(Int32.sub_self _).symm, hm⟩
  | succ k ih =>
    obtain ⟨i1, i2⟩ := ih
    obtain ⟨b1, b2⟩ := mGB_cnt i2 gt k n
    rw [mWorkN]
    unfold mWorkE
    have hm1 : MsgOk (mW1 (mGB (mWorkN g gt n k).1 gt k n).1 gt k) := b2
    have e1 : (mW1 (mGB (mWorkN g gt n k).1 gt k n).1 gt k).2.2 1131 = (mGB (mWorkN g gt n k).1 gt k n).1.2.2 1131 := rfl
    split
    · obtain ⟨s1, s2⟩ := mSend_cnt (g := mOpenUp (mW1 (mGB (mWorkN g gt n k).1 gt k n).1 gt k) gt k) hm1 0 (nI gt) (nI k) (mMore (mW1 (mGB (mWorkN g gt n k).1 gt k n).1 gt k) gt k n) ((mOpenUp (mW1 (mGB (mWorkN g gt n k).1 gt k n).1 gt k) gt k).1 20 gt) ((mOpenUp (mW1 (mGB (mWorkN g gt n k).1 gt k n).1 gt k) gt k).1 23 (8 * gt + k)) (-1)
      refine ⟨?_, s2⟩
      show (mWorkN g gt n k).2 + (mGB (mWorkN g gt n k).1 gt k n).2 + (mAskS (mW1 (mGB (mWorkN g gt n k).1 gt k n).1 gt k) gt k (mMore (mW1 (mGB (mWorkN g gt n k).1 gt k n).1 gt k) gt k n)).2 = _
      unfold mAskS
      rw [s1, b1, i1, sub_tr]
      exact sub_tr _ _ _
    · refine ⟨?_, hm1⟩
      show (mWorkN g gt n k).2 + (mGB (mWorkN g gt n k).1 gt k n).2 = _
      rw [b1, i1, sub_tr]; rfl
theorem cnt_ls {g : MS} {k n : Nat} (h : ∀ x, x < n → 0 ≤ (g.1 9 x).toInt) : mCnt g (nI k) n = nI (lsB g k n).length := by
  unfold lsB
  induction n with
  | zero => rfl
  | succ n ih =>
    rw [fil_succ, mCnt, ih (fun x hx => h x (by omega))]
    have hp : 0 < g.1 9 n ↔ ¬ g.1 9 n = 0 := by
      have := h n (by omega)
      have e0 : (0 : Int32).toInt = 0 := rfl
      rw [Int32.lt_iff_toInt_lt]
      constructor
      · intro z w; rw [w] at z; omega
      · intro z
        have : (g.1 9 n).toInt ≠ 0 := fun w => z (i32_I0.mp w)
        omega
    by_cases z : lsP g k n
    · rw [if_pos z, if_pos ⟨z.1, hp.mpr z.2⟩, List.length_append]; exact nI_add _ 1
    · rw [if_neg z, if_neg (fun w => z ⟨w.1, hp.mp w.2⟩)]
theorem CR.f0 {S : PS} {y : Nat → Nat} {dE : Nat} {g : MS} {c : CS} {v : Int32} (h : CR S y dE g c) : CR S y dE (iF g 1100 v) c := h
theorem CanB.f0 {g : MS} {c : CS} {n : Nat} {v : Int32} (h : CanB c g n) : CanB c (iF g 1100 v) n := h.same rfl rfl
theorem nI_nn {i : Nat} (h : i < 6) : ¬ nI i = -1 := fun e => by have := nI_pos (n := i) (by omega); rw [e] at this; exact this (by decide)
theorem kHear_z (g : MS) (gt kk h : Nat) (birth tok cnt len : Int32) : (kHear g gt kk h birth tok cnt len).2 = 0 ∨ (kHear g gt kk h birth tok cnt len).2 = 1 := by
  unfold kHear kAcc
  split
  · split
    · exact Or.inr rfl
    · exact Or.inl rfl
  · exact Or.inl rfl
