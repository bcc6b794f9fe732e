theorem i32_sub {a b : Int32} (h1 : -2147483648 ≤ a.toInt - b.toInt) (h2 : a.toInt - b.toInt < 2147483648) : (a - b).toInt = a.toInt - b.toInt := by
  rw [Int32.toInt_sub]
  exact Int.bmod_eq_of_le (by omega) (by omega)
abbrev mRem (g : MS) (gt h : Nat) : Int32 := mSpan g h - mAge g gt h
def mBest (g : MS) (gt kk : Nat) : Nat → Int32 × Int32
  | 0 => (-1, 0)
  | h + 1 => if (mHold g gt kk h ∧ mLive g gt h) ∧ ((mBest g gt kk h).1 < 0 ∨ mRem g gt h < (mBest g gt kk h).2) then (nI h, mRem g gt h) else mBest g gt kk h
theorem mBest_a {g : MS} {gt kk h : Nat} (z : (mHold g gt kk h ∧ mLive g gt h) ∧ ((mBest g gt kk h).1 < 0 ∨ mRem g gt h < (mBest g gt kk h).2)) : mBest g gt kk (h + 1) = (nI h, mRem g gt h) := by rw [mBest, if_pos z]
theorem mBest_b {g : MS} {gt kk h : Nat} (z : ¬ ((mHold g gt kk h ∧ mLive g gt h) ∧ ((mBest g gt kk h).1 < 0 ∨ mRem g gt h < (mBest g gt kk h).2))) : mBest g gt kk (h + 1) = mBest g gt kk h := by rw [mBest, if_neg z]
def mTk1 (g : MS) (b : Nat) (left : Int32) : Int32 := if g.1 28 b < left then g.1 28 b else left
def mTk2 (g : MS) (b : Nat) (x : Int32) : MS := if g.1 28 b - x = 0 then iI (iI g 28 b (g.1 28 b - x)) 27 b 0 else iI g 28 b (g.1 28 b - x)
def mTkS (g : MS) (gt kk n : Nat) (left : Int32) : MS := mTk2 g (mBest g gt kk n).1.toNatClampNeg (mTk1 g (mBest g gt kk n).1.toNatClampNeg left)
def mTkD (gt kk n : Nat) : Nat → MS → Int32 → MS
  | 0, g, _ => g
  | d + 1, g, left => if 0 < left then mTkD gt kk n d (mTkS g gt kk n left) (left - mTk1 g (mBest g gt kk n).1.toNatClampNeg left) else g
/-- what is live, as a whole number -/
def liveI (g : MS) (gt kk : Nat) : Nat → Int
  | 0 => 0
  | h + 1 => if mHold g gt kk h ∧ mLive g gt h then liveI g gt kk h + (g.1 28 h).toInt else liveI g gt kk h
def HOk (g : MS) (gt kk n : Nat) : Prop := ∀ h, h < n → mHold g gt kk h → 1 ≤ (g.1 28 h).toInt ∧ (g.1 28 h).toInt ≤ 1000000
theorem live_I {g : MS} {gt kk n : Nat} (hk : HOk g gt kk n) (hn : n ≤ 300) : ∀ m, m ≤ n → (mLiveSum g gt kk m).toInt = liveI g gt kk m ∧ 0 ≤ liveI g gt kk m ∧ liveI g gt kk m ≤ 1000000 * m := by
  intro m
  induction m with
  | zero => intro _; exact ⟨rfl, Int.le_refl _, by simp [liveI]⟩
  | succ h ih =>
    intro hm
    obtain ⟨a, b, c⟩ := ih (by omega)
    rw [mLiveSum, liveI]
    by_cases z : mHold g gt kk h ∧ mLive g gt h
    · have y := hk h (by omega) z.1
      rw [if_pos z, if_pos z, i32_add (by omega) (by omega), a]
      omega
    · rw [if_neg z, if_neg z]
      exact ⟨a, b, by omega⟩
theorem best_I (g : MS) (gt kk : Nat) : ∀ m, m ≤ 300 → ((mBest g gt kk m).1 = -1 ∧ ∀ h, h < m → ¬ (mHold g gt kk h ∧ mLive g gt h)) ∨ ∃ b, b < m ∧ (mBest g gt kk m).1 = nI b ∧ mHold g gt kk b ∧ mLive g gt b := by
  intro m
  induction m with
  | zero => intro _; exact Or.inl ⟨rfl, fun h z => absurd z (Nat.not_lt_zero _)⟩
  | succ h ih =>
    intro hm
    by_cases z : (mHold g gt kk h ∧ mLive g gt h) ∧ ((mBest g gt kk h).1 < 0 ∨ mRem g gt h < (mBest g gt kk h).2)
    · rw [mBest_a z]
      exact Or.inr ⟨h, Nat.lt_succ_self _, rfl, z.1.1, z.1.2⟩
    · rw [mBest_b z]
      rcases ih (by omega) with ⟨a, b⟩ | ⟨b, h1, h2, h3, h4⟩
      · refine Or.inl ⟨a, fun x hx => ?_⟩
        by_cases e : x = h
        · subst e
          intro y
          exact z ⟨y, Or.inl (by rw [a]; decide)⟩
        · exact b x (by omega)
      · exact Or.inr ⟨b, by omega, h2, h3, h4⟩
theorem liveI_none {g : MS} {gt kk : Nat} : ∀ m, (∀ h, h < m → ¬ (mHold g gt kk h ∧ mLive g gt h)) → liveI g gt kk m = 0 := by
  intro m
  induction m with
  | zero => intro _; rfl
  | succ h ih =>
    intro z
    rw [liveI, if_neg (z h (Nat.lt_succ_self _))]
    exact ih (fun x hx => z x (by omega))
theorem best_ok {g : MS} {gt kk n : Nat} (hn : n ≤ 300) (h : 0 < liveI g gt kk n) : ∃ b, b < n ∧ (mBest g gt kk n).1 = nI b ∧ mHold g gt kk b ∧ mLive g gt b := by
  rcases best_I g gt kk n hn with ⟨-, z⟩ | z
  · rw [liveI_none n z] at h; exact absurd h (by decide)
  · exact z
theorem mTk2_28 (g : MS) (b : Nat) (x : Int32) (h : Nat) : (mTk2 g b x).1 28 h = if h = b then g.1 28 b - x else g.1 28 h := by
  unfold mTk2
  split <;> simp [iI, va_up]
theorem mTk2_27 (g : MS) (b : Nat) (x : Int32) (h : Nat) : (mTk2 g b x).1 27 h = if h = b ∧ g.1 28 b - x = 0 then 0 else g.1 27 h := by
  unfold mTk2
  split
  · rename_i z; by_cases e : h = b <;> simp [iI, va_up, e, z]
  · rename_i z; simp [iI, va_up, z]
theorem mTk2_o (g : MS) (b : Nat) (x : Int32) : (mTk2 g b x).2 = g.2 ∧ ∀ j, j ≠ 27 → j ≠ 28 → (mTk2 g b x).1 j = g.1 j := by
  unfold mTk2
  split
  · exact ⟨rfl, fun j h1 h2 => by show va_up (va_up g.1 28 _) 27 _ j = _; rw [va_up_ne _ _ h1, va_up_ne _ _ h2]⟩
  · exact ⟨rfl, fun j h1 h2 => by show va_up g.1 28 _ j = _; rw [va_up_ne _ _ h2]⟩
theorem mTk2_live (g : MS) (b : Nat) (x : Int32) (gt h : Nat) : mLive (mTk2 g b x) gt h ↔ mLive g gt h := by
  have e := mTk2_o g b x
  unfold mLive mAge mSpan mClk
  rw [e.1, e.2 29 (by decide) (by decide), e.2 30 (by decide) (by decide)]
theorem mTk2_hold {g : MS} {b : Nat} {x : Int32} {gt kk h : Nat} (hg : gt < 6) : mHold (mTk2 g b x) gt kk h ↔ mHold g gt kk h ∧ ¬ (h = b ∧ g.1 28 b - x = 0) := by
  have e := mTk2_o g b x
  unfold mHold
  rw [e.2 8 (by decide) (by decide), mTk2_27]
  by_cases z : h = b ∧ g.1 28 b - x = 0
  · rw [if_pos z]
    exact ⟨fun y => absurd y.1.symm (nI_ne0 (by omega) (by omega)), fun y => absurd z y.2⟩
  · rw [if_neg z]
    exact ⟨fun y => ⟨y, z⟩, fun y => y.1⟩
theorem liveI_tk {g : MS} {b : Nat} {x : Int32} {gt kk : Nat} (hg : gt < 6) (hb : mHold g gt kk b) (hl : mLive g gt b) (hx : (g.1 28 b - x).toInt = (g.1 28 b).toInt - x.toInt) : ∀ m, liveI (mTk2 g b x) gt kk m = liveI g gt kk m - (if b < m then x.toInt else 0) := by
  intro m
  induction m with
  | zero => simp [liveI]
  | succ h ih =>
    have e1 := mTk2_hold (g := g) (b := b) (x := x) (kk := kk) (h := h) hg
    have e2 := mTk2_live g b x gt h
    have e3 := mTk2_28 g b x h
    by_cases z : h = b
    · subst z
      have r1 : liveI g gt kk (h + 1) = liveI g gt kk h + (g.1 28 h).toInt := by rw [liveI, if_pos ⟨hb, hl⟩]
      rw [if_neg (Nat.lt_irrefl h)] at ih
      rw [if_pos (Nat.lt_succ_self h), r1]
      rw [if_pos rfl] at e3
      by_cases y : g.1 28 h - x = 0
      · have r2 : liveI (mTk2 g h x) gt kk (h + 1) = liveI (mTk2 g h x) gt kk h := by rw [liveI, if_neg (fun q => (e1.mp q.1).2 ⟨rfl, y⟩)]
        rw [y] at hx
        have : (0 : Int32).toInt = 0 := rfl
        omega
      · have r2 : liveI (mTk2 g h x) gt kk (h + 1) = liveI (mTk2 g h x) gt kk h + ((mTk2 g h x).1 28 h).toInt := by rw [liveI, if_pos ⟨e1.mpr ⟨hb, fun q => y q.2⟩, e2.mpr hl⟩]
        rw [e3, hx] at r2
        omega
    · have c : (if b < h + 1 then x.toInt else 0) = (if b < h then x.toInt else 0) := by
        by_cases q : b < h
        · rw [if_pos q, if_pos (by omega)]
        · rw [if_neg q, if_neg (by omega)]
      rw [if_neg z] at e3
      rw [c]
      by_cases y : mHold g gt kk h ∧ mLive g gt h
      · have r1 : liveI g gt kk (h + 1) = liveI g gt kk h + (g.1 28 h).toInt := by rw [liveI, if_pos y]
        have r2 : liveI (mTk2 g b x) gt kk (h + 1) = liveI (mTk2 g b x) gt kk h + ((mTk2 g b x).1 28 h).toInt := by rw [liveI, if_pos ⟨e1.mpr ⟨y.1, fun q => z q.1⟩, e2.mpr y.2⟩]
        rw [e3] at r2
        rw [r1, r2, ih]
        omega
      · have r1 : liveI g gt kk (h + 1) = liveI g gt kk h := by rw [liveI, if_neg y]
        have r2 : liveI (mTk2 g b x) gt kk (h + 1) = liveI (mTk2 g b x) gt kk h := by rw [liveI, if_neg (fun q => y ⟨(e1.mp q.1).1, e2.mp q.2⟩)]
        rw [r1, r2, ih]
theorem mTk1_I {g : MS} {b : Nat} {left : Int32} (h1 : 1 ≤ (g.1 28 b).toInt) (h2 : (g.1 28 b).toInt ≤ 1000000) (h3 : 1 ≤ left.toInt) (h4 : left.toInt ≤ 10000) : 1 ≤ (mTk1 g b left).toInt ∧ (mTk1 g b left).toInt ≤ left.toInt ∧ (mTk1 g b left).toInt ≤ (g.1 28 b).toInt := by
  unfold mTk1
  split
  · rename_i z; rw [Int32.lt_iff_toInt_lt] at z; omega
  · rename_i z; rw [Int32.lt_iff_toInt_lt] at z; omega
/-- one turn of the loop keeps what it needs -/
theorem mTkS_ok {g : MS} {gt kk n : Nat} {left : Int32} (hg : gt < 6) (hn : n ≤ 300) (hk : HOk g gt kk n) (hl : left.toInt ≤ liveI g gt kk n) (h3 : 1 ≤ left.toInt) (h4 : left.toInt ≤ 10000) :
    HOk (mTkS g gt kk n left) gt kk n ∧ (left - mTk1 g (mBest g gt kk n).1.toNatClampNeg left).toInt ≤ liveI (mTkS g gt kk n left) gt kk n ∧ (left - mTk1 g (mBest g gt kk n).1.toNatClampNeg left).toInt < left.toInt ∧ 0 ≤ (left - mTk1 g (mBest g gt kk n).1.toNatClampNeg left).toInt := by
  obtain ⟨b, b1, b2, b3, b4⟩ := best_ok hn (show 0 < liveI g gt kk n by omega)
  unfold mTkS
  rw [b2, nI_clamp (by omega)]
  have y := hk b b1 b3
  have s := mTk1_I (left := left) y.1 y.2 h3 h4
  have d := i32_sub (a := left) (b := mTk1 g b left) (by omega) (by omega)
  have d2 := i32_sub (a := g.1 28 b) (b := mTk1 g b left) (by omega) (by omega)
  have L := liveI_tk (x := mTk1 g b left) hg b3 b4 d2 n
  rw [if_pos b1] at L
  refine ⟨fun h hh hh2 => ?_, by omega, by omega, by omega⟩
  have e1 := (mTk2_hold (g := g) (b := b) (x := mTk1 g b left) (kk := kk) (h := h) hg).mp hh2
  rw [mTk2_28]
  by_cases z : h = b
  · subst z
    rw [if_pos rfl]
    have : (g.1 28 h - mTk1 g h left).toInt ≠ 0 := fun q => e1.2 ⟨rfl, Int32.toInt_inj.mp (by rw [q]; rfl)⟩
    omega
  · rw [if_neg z]; exact hk h hh e1.1
theorem mTkS_f (g : MS) (gt kk n : Nat) (left : Int32) : (mTkS g gt kk n left).2 = g.2 := (mTk2_o _ _ _).1
theorem mTkD_done (gt kk n d : Nat) (g : MS) {left : Int32} (h : ¬ 0 < left) : mTkD gt kk n d g left = g := by
  cases d with
  | zero => rfl
  | succ d => rw [mTkD, if_neg h]
def mTkOk (g : MS) (n gt kk : Nat) (x : Int32) : MS × Int32 :=
  if mLiveSum (iI g 22 (8 * gt + kk) (g.1 22 (8 * gt + kk) + x)) gt kk n < x then (iI (iI g 22 (8 * gt + kk) (g.1 22 (8 * gt + kk) + x)) 26 (8 * gt + kk) (g.1 26 (8 * gt + kk) + 1), 0)
  else (iI (iI (mTkD gt kk n 10001 (iI g 22 (8 * gt + kk) (g.1 22 (8 * gt + kk) + x)) x) 26 (8 * gt + kk) 0) 6 kk ((iI (mTkD gt kk n 10001 (iI g 22 (8 * gt + kk) (g.1 22 (8 * gt + kk) + x)) x) 26 (8 * gt + kk) 0).1 6 kk + x), 1)
theorem mTkOk_a {g : MS} {n gt kk : Nat} {x : Int32} (h : mLiveSum (iI g 22 (8 * gt + kk) (g.1 22 (8 * gt + kk) + x)) gt kk n < x) : mTkOk g n gt kk x = (iI (iI g 22 (8 * gt + kk) (g.1 22 (8 * gt + kk) + x)) 26 (8 * gt + kk) (g.1 26 (8 * gt + kk) + 1), 0) := if_pos h
theorem mTkOk_b {g g2 : MS} {n gt kk : Nat} {x : Int32} (h : ¬ mLiveSum (iI g 22 (8 * gt + kk) (g.1 22 (8 * gt + kk) + x)) gt kk n < x) (e : mTkD gt kk n 10001 (iI g 22 (8 * gt + kk) (g.1 22 (8 * gt + kk) + x)) x = g2) : mTkOk g n gt kk x = (iI (iI g2 26 (8 * gt + kk) 0) 6 kk ((iI g2 26 (8 * gt + kk) 0).1 6 kk + x), 1) := by subst e; exact if_neg h
def mTake (g : MS) (n : Nat) (p0 p1 p2 : Int32) : MS × Int32 := if ((0 ≤ p0 ∧ p0 ≤ 5) ∧ (0 ≤ p1 ∧ p1 ≤ 7)) ∧ (1 ≤ p2 ∧ p2 ≤ 10000) then mTkOk (iF g 1100 0) n p0.toNatClampNeg p1.toNatClampNeg p2 else (iF g 1100 1, 0)
set_option maxRecDepth 100000 in
set_option maxHeartbeats 1000000 in
theorem c_X11_take {l : Launch} {D : va_G} {cy : Nat → ClassId} {B : Nat} {s0 : State} {S : PS} {a0 : Nat} {t : Nat → Nat} {g : MS} {n : Nat} {p0 p1 p2 : Int32} (hR : MR S a0 t g) (hn : g.2.2 1107 = nI n) (hn3 : n ≤ 300) (hk0 : ∀ gt kk, gt < 6 → kk < 8 → HOk g gt kk n) : KI l yX11_take wsX11_take ({ frames := 4, cells := 0, slots := 0, locals := 89 }) D cy B s0 [.ref a0, .int p0, .int p1, .int p2] S (fun r S2 => MO S S2 a0 t ∧ MR S2 a0 t (mTake g n p0 p1 p2).1 ∧ r = (mTake g n p0 p1 p2).2) 0 0 := by
  refine k_body (own := RX11) (cc := cX11_take) (maxL := 10) (ret := (some .boolean)) rfl (by decide) rfl (Nat.le_of_ble_eq_true rfl) ?_
  intro p e s m below meth c C hml hr hlk hnm hB hW ls hl
  obtain ⟨hx, hb, hts, hown, hK, hEn⟩ := id C
  have hS : va_S (Aw B) s.heap s.heap [] := va_S.rf
  have hinX11 : ∀ w ∈ wsX110, w ∈ wsX11_take := by decide +kernel
  have l26 : Cond.fieldLink RX11 26 "LeaseGatesModel" "granted" "[I" ∈ wsX11_take := by decide +kernel
  have l73 : Cond.fieldLink RX11 73 "LeaseGatesModel" "use" "[I" ∈ wsX11_take := by decide +kernel
  have l85 : Cond.fieldLink RX11 85 "LeaseGatesModel" "refusals" "[I" ∈ wsX11_take := by decide +kernel
  have l88 : Cond.fieldLink RX11 88 "LeaseGatesModel" "holder" "[I" ∈ wsX11_take := by decide +kernel
  have l91 : Cond.fieldLink RX11 91 "LeaseGatesModel" "held" "[I" ∈ wsX11_take := by decide +kernel
  have l97 : Cond.fieldLink RX11 97 "LeaseGatesModel" "heldLength" "[I" ∈ wsX11_take := by decide +kernel
  have l111 : Cond.fieldLink RX11 111 "LeaseGatesModel" "loans" "I" ∈ wsX11_take := by decide +kernel
  have hl : lv_has ls 10 [(0, .ref a0), (1, .int p0), (2, .int p1), (3, .int p2)] := hl
  have hO : MO S S a0 t := MO.rf
  refine lv_aload_n hx hb dX11_take_0 rfl (lv_at hl 0 rfl) ?_
  refine lv_iload_n hx hb dX11_take_1 rfl (lv_at hl 1 rfl) ?_
  refine lv_iload_n hx hb dX11_take_2 rfl (lv_at hl 2 rfl) ?_
  refine k_callSi (As := [.int p0, .int p1]) (rest := [.ref a0]) C hml (c_X11_isPlace) (va_cwS 2 hts gX11_take_X11_isPlace rfl rfl rfl (by decide +kernel) ⟨by decide, by decide⟩) hW hS hB rfl hl.1 rfl (Nat.le_of_ble_eq_true rfl) dX11_take_3 ⟨Nat.le_of_ble_eq_true rfl, Nat.le_of_ble_eq_true rfl⟩ (fun r9 S1 H locs hp9 hW hS => ?_)
  obtain ⟨e8, e9⟩ := hp9
  rw [e8] at hW
  subst e9
  refine lv_if_eq (tgt := 24) hx hb dX11_take_6 (by decide) (fun c_6 => ?_) (fun c_6 => ?_)
  · have q_6 : ¬ ((0 ≤ p0 ∧ p0 ≤ 5) ∧ (0 ≤ p1 ∧ p1 ≤ 7)) := ite0.mp c_6
    refine lv_iconst (v := 1) hx hb dX11_take_24 (by decide) ?_
    refine k_callVi (As := [.int 1]) (rest := []) C hml (c_X11_refused hR) (cwV 1 hts gX11_take_X11_refused rfl rfl rfl (by decide +kernel) ⟨by decide, by decide⟩) hW hS hB (hR.1.1).1 (pAt_11 (hR.1.1).2) rfl rfl hl.1 rfl (Nat.le_of_ble_eq_true rfl) dX11_take_25 ⟨Nat.le_of_ble_eq_true rfl, Nat.le_of_ble_eq_true rfl⟩ (fun r9 S2 H locs hp9 hW hS => ?_)
    obtain ⟨hO9, hR, e9⟩ := hp9
    replace hO := hO.tr hO9
    obtain rfl : r9 = 1 := e9.trans (by decide)
    clear hO9 e9
    refine lv_if_eq (tgt := 33) hx hb dX11_take_28 (by decide) (fun c9 => absurd c9 (by decide)) (fun c9 => ?_)
    refine lv_iconst (v := 0) hx hb dX11_take_31 (by decide) ?_
    exact k_zret C hr hlk hW hS hB ⟨hO, by rw [mTake, if_neg (fun z => by first | exact q_6 z.1 | exact q_17 z.2)]; dsimp only; exact hR, by rw [mTake, if_neg (fun z => by first | exact q_6 z.1 | exact q_17 z.2)]⟩ (by decide) (Nat.le_refl _) (Nat.le_refl _) dX11_take_32
  · have q_6 : ((0 ≤ p0 ∧ p0 ≤ 5) ∧ (0 ≤ p1 ∧ p1 ≤ 7)) := ite1.mp c_6
    refine lv_iload_n hx hb dX11_take_9 rfl (lv_at hl 3 rfl) ?_
    refine lv_iconst (v := 1) hx hb dX11_take_10 (by decide) ?_
    refine lv_sipush (v := 10000) hx hb dX11_take_11 (by decide) ?_
    refine k_callSi (As := [.int p2, .int 1, .int 10000]) (rest := [.ref a0]) C hml (c_X11_isIn) (va_cwS 3 hts gX11_take_X11_isIn rfl rfl rfl (by decide +kernel) ⟨by decide, by decide⟩) hW hS hB rfl hl.1 rfl (Nat.le_of_ble_eq_true rfl) dX11_take_14 ⟨Nat.le_of_ble_eq_true rfl, Nat.le_of_ble_eq_true rfl⟩ (fun r9 S3 H locs hp9 hW hS => ?_)
    obtain ⟨e8, e9⟩ := hp9
    rw [e8] at hW
    subst e9
    refine lv_if_eq (tgt := 24) hx hb dX11_take_17 (by decide) (fun c_17 => ?_) (fun c_17 => ?_)
    · have q_17 : ¬ (1 ≤ p2 ∧ p2 ≤ 10000) := ite0.mp c_17
      refine lv_iconst (v := 1) hx hb dX11_take_24 (by decide) ?_
      refine k_callVi (As := [.int 1]) (rest := []) C hml (c_X11_refused hR) (cwV 1 hts gX11_take_X11_refused rfl rfl rfl (by decide +kernel) ⟨by decide, by decide⟩) hW hS hB (hR.1.1).1 (pAt_11 (hR.1.1).2) rfl rfl hl.1 rfl (Nat.le_of_ble_eq_true rfl) dX11_take_25 ⟨Nat.le_of_ble_eq_true rfl, Nat.le_of_ble_eq_true rfl⟩ (fun r9 S4 H locs hp9 hW hS => ?_)
      obtain ⟨hO9, hR, e9⟩ := hp9
      replace hO := hO.tr hO9
      obtain rfl : r9 = 1 := e9.trans (by decide)
      clear hO9 e9
      refine lv_if_eq (tgt := 33) hx hb dX11_take_28 (by decide) (fun c9 => absurd c9 (by decide)) (fun c9 => ?_)
      refine lv_iconst (v := 0) hx hb dX11_take_31 (by decide) ?_
      exact k_zret C hr hlk hW hS hB ⟨hO, by rw [mTake, if_neg (fun z => by first | exact q_6 z.1 | exact q_17 z.2)]; dsimp only; exact hR, by rw [mTake, if_neg (fun z => by first | exact q_6 z.1 | exact q_17 z.2)]⟩ (by decide) (Nat.le_refl _) (Nat.le_refl _) dX11_take_32
    · have q_17 : (1 ≤ p2 ∧ p2 ≤ 10000) := ite1.mp c_17
      refine lv_iconst (v := 0) hx hb dX11_take_20 (by decide) ?_
      refine lv_goto (tgt := 25) hx hb dX11_take_21 (by decide) ?_
      refine k_callVi (As := [.int 0]) (rest := []) C hml (c_X11_refused hR) (cwV 1 hts gX11_take_X11_refused rfl rfl rfl (by decide +kernel) ⟨by decide, by decide⟩) hW hS hB (hR.1.1).1 (pAt_11 (hR.1.1).2) rfl rfl hl.1 rfl (Nat.le_of_ble_eq_true rfl) dX11_take_25 ⟨Nat.le_of_ble_eq_true rfl, Nat.le_of_ble_eq_true rfl⟩ (fun r9 S5 H locs hp9 hW hS => ?_)
      obtain ⟨hO9, hR, e9⟩ := hp9
      replace hO := hO.tr hO9
      obtain rfl : r9 = 0 := e9.trans (by decide)
      clear hO9 e9
      refine lv_if_eq (tgt := 33) hx hb dX11_take_28 (by decide) (fun c9 => ?_) (fun c9 => absurd c9 (by decide))
      obtain ⟨gt, hgt, rfl⟩ := rngN 5 (by decide) q_6.1
      obtain ⟨kk, hkk, rfl⟩ := rngN 7 (by decide) q_6.2
      refine lv_bipush (v := 8) hx hb dX11_take_33 (by decide) ?_
      refine lv_iload_n hx hb dX11_take_35 rfl (lv_at hl 1 rfl) ?_
      refine lv_imul hx hb dX11_take_36 ?_
      refine top_i (show 8 * (nI gt) = nI (8 * gt) from pk_mul 8 gt) ?_
      refine lv_iload_n hx hb dX11_take_37 rfl (lv_at hl 2 rfl) ?_
      refine lv_iadd hx hb dX11_take_38 ?_
      refine top_i (show (nI (8 * gt)) + (nI kk) = nI ((8 * gt) + kk) from nI_add (8 * gt) kk) ?_
      refine lv_istore (lv' := [(4, .int (nI ((8 * gt) + kk))), (0, .ref a0), (1, .int (nI gt)), (2, .int (nI kk)), (3, .int p2)]) hx hb dX11_take_39 hl (by decide) rfl (fun ls hl => ?_)
      refine lv_aload_n hx hb dX11_take_41 rfl (lv_at hl 1 rfl) ?_
      refine g_1122 C hinX11 hW hR.1.1 (mA_22 hR.1) l73 dX11_take_42 ?_
      refine lv_iload hx hb dX11_take_45 (lv_at hl 0 rfl) ?_
      refine lv_aload_n hx hb dX11_take_47 rfl (lv_at hl 1 rfl) ?_
      refine g_1122 C hinX11 hW hR.1.1 (mA_22 hR.1) l73 dX11_take_48 ?_
      refine lv_iload hx hb dX11_take_51 (lv_at hl 0 rfl) ?_
      refine a_Iload C hW (j := ((8 * gt) + kk)) (mK_22 hR.1) (mN_22 hR.1) rfl (by omega) (by omega) dX11_take_53 ?_
      refine top_i (show aI S5 (t 22) ((8 * gt) + kk) = (iF g 1100 0).1 22 ((8 * gt) + kk) from hR.i 22 ((8 * gt) + kk)) ?_
      refine lv_iload_n hx hb dX11_take_54 rfl (lv_at hl 4 rfl) ?_
      refine lv_iadd hx hb dX11_take_55 ?_
      refine a_Istore C hW hS (j := ((8 * gt) + kk)) (mK_22 hR.1) (mN_22 hR.1) rfl (by omega) (by omega) dX11_take_56 (fun S6 H locs e1 hW hS => ?_)
      have hR : MR S6 a0 t (iI (iF g 1100 0) 22 ((8 * gt) + kk) (((iF g 1100 0).1 22 ((8 * gt) + kk)) + p2)) := by rw [e1]; exact hR.wI
      replace hO : MO S S6 a0 t := by rw [e1]; exact hO.wI
      clear e1
      refine lv_aload_n hx hb dX11_take_57 rfl (lv_at hl 1 rfl) ?_
      refine lv_iload_n hx hb dX11_take_58 rfl (lv_at hl 2 rfl) ?_
      refine lv_iload_n hx hb dX11_take_59 rfl (lv_at hl 3 rfl) ?_
      refine k_callVi (As := [.int (nI gt), .int (nI kk)]) (rest := []) C hml (c_X11_live (gt := gt) (kk := kk) hR hn hn3 (by omega)) (cwV 2 hts gX11_take_X11_live rfl rfl rfl (by decide +kernel) ⟨by decide, by decide⟩) hW hS hB (hR.1.1).1 (pAt_11 (hR.1.1).2) rfl rfl hl.1 rfl (Nat.le_of_ble_eq_true rfl) dX11_take_60 ⟨Nat.le_of_ble_eq_true rfl, Nat.le_of_ble_eq_true rfl⟩ (fun r9 S7 H locs hp9 hW hS => ?_)
      obtain ⟨e8, e9⟩ := hp9
      rw [e8] at hW
      subst e9
      refine lv_iload_n hx hb dX11_take_63 rfl (lv_at hl 4 rfl) ?_
      refine lv_icmp_ge (tgt := 80) hx hb dX11_take_64 (by decide) (fun c_64 => ?_) (fun c_64 => ?_)
      · have hg9 : gt < 6 := hgt
        have hk9 : HOk (iI (iF g 1100 0) 22 ((8 * gt) + kk) ((iF g 1100 0).1 22 ((8 * gt) + kk) + p2)) gt kk n := hk0 gt kk hgt hkk
        have hp9 : 1 ≤ p2.toInt ∧ p2.toInt ≤ 10000 := ⟨by have z := q_17.1; rw [Int32.le_iff_toInt_le] at z; exact z, by have z := q_17.2; rw [Int32.le_iff_toInt_le] at z; exact z⟩
        have hl9 : p2.toInt ≤ liveI (iI (iF g 1100 0) 22 ((8 * gt) + kk) ((iF g 1100 0).1 22 ((8 * gt) + kk) + p2)) gt kk n := by
          have z := c_64
          rw [Int32.le_iff_toInt_le, (live_I hk9 hn3 n (Nat.le_refl _)).1] at z
          exact z
        refine lv_iload_n hx hb dX11_take_80 rfl (lv_at hl 4 rfl) ?_
        refine lv_istore (lv' := [(5, .int p2), (4, .int (nI ((8 * gt) + kk))), (0, .ref a0), (1, .int (nI gt)), (2, .int (nI kk)), (3, .int p2)]) hx hb dX11_take_81 hl (by decide) rfl (fun ls hl => ?_)
        have lp : ∀ (d_lp : Nat) (x5 : Int32) (gk : MS) (Sk : PS) (H : Heap) (locs : List Loc) (ls : Array Slot), x5.toInt.toNat < d_lp → MR Sk a0 t gk → MO S Sk a0 t → mTkD gt kk n d_lp gk x5 = mTkD gt kk n 10001 (iI (iF g 1100 0) 22 ((8 * gt) + kk) ((iF g 1100 0).1 22 ((8 * gt) + kk) + p2)) p2 → gk.2.2 1107 = nI n → HOk gk gt kk n → x5.toInt ≤ liveI gk gt kk n → x5.toInt ≤ 10000 → PW D cy B Sk H → va_S (Aw B) s.heap H locs → lv_has ls 10 [(0, .ref a0), (1, .int (nI gt)), (2, .int (nI kk)), (3, .int p2), (4, .int (nI ((8 * gt) + kk))), (5, .int x5)] → W p l e ({ frames := 4, cells := 0, slots := 0, locals := 89 }) s m [.ref a0, .int (nI gt), .int (nI kk), .int p2].toArray below meth c H locs 0 0 (MQ below (va_Qi (fun r S2 => MO S S2 a0 t ∧ MR S2 a0 t (mTake g n (nI gt) (nI kk) p2).1 ∧ r = (mTake g n (nI gt) (nI kk) p2).2) (PreW D cy B s0) (Aw B)) [.ref a0, .int (nI gt), .int (nI kk), .int p2].toArray s 0 0 (Aw B)) (F0 m 83 ls []) := by
          intro d_lp
          induction d_lp with
          | zero => intro x5 gk Sk H locs ls hd; exact absurd hd (Nat.not_lt_zero _)
          | succ d_lp ih_lp =>
            intro x5 gk Sk H locs ls hd hR hO hE hn hk1 hl1 hx1 hW hS hl
            refine lv_iload hx hb dX11_take_83 (lv_at hl 5 rfl) ?_
            refine lv_if_le (tgt := 244) hx hb dX11_take_85 (by decide) (fun c_85 => ?_) (fun c_85 => ?_)
            · refine lv_aload_n hx hb dX11_take_244 rfl (lv_at hl 0 rfl) ?_
              refine g_1126 C hinX11 hW hR.1.1 (mA_26 hR.1) l85 dX11_take_245 ?_
              refine lv_iload hx hb dX11_take_248 (lv_at hl 4 rfl) ?_
              refine lv_iconst (v := 0) hx hb dX11_take_250 (by decide) ?_
              refine a_Istore C hW hS (j := ((8 * gt) + kk)) (mK_26 hR.1) (mN_26 hR.1) rfl (by omega) (by omega) dX11_take_251 (fun S8 H locs e1 hW hS => ?_)
              have hR : MR S8 a0 t (iI gk 26 ((8 * gt) + kk) 0) := by rw [e1]; exact hR.wI
              replace hO : MO S S8 a0 t := by rw [e1]; exact hO.wI
              clear e1
              refine lv_aload_n hx hb dX11_take_252 rfl (lv_at hl 0 rfl) ?_
              refine g_1106 C hinX11 hW hR.1.1 (mA_6 hR.1) l26 dX11_take_253 ?_
              refine lv_iload_n hx hb dX11_take_256 rfl (lv_at hl 2 rfl) ?_
              refine lv_aload_n hx hb dX11_take_257 rfl (lv_at hl 0 rfl) ?_
              refine g_1106 C hinX11 hW hR.1.1 (mA_6 hR.1) l26 dX11_take_258 ?_
              refine lv_iload_n hx hb dX11_take_261 rfl (lv_at hl 2 rfl) ?_
              refine a_Iload C hW (j := kk) (mK_6 hR.1) (mN_6 hR.1) rfl (by omega) (by omega) dX11_take_262 ?_
              refine top_i (show aI S8 (t 6) kk = (iI gk 26 ((8 * gt) + kk) 0).1 6 kk from hR.i 6 kk) ?_
              refine lv_iload_n hx hb dX11_take_263 rfl (lv_at hl 3 rfl) ?_
              refine lv_iadd hx hb dX11_take_264 ?_
              refine a_Istore C hW hS (j := kk) (mK_6 hR.1) (mN_6 hR.1) rfl (by omega) (by omega) dX11_take_265 (fun S9 H locs e1 hW hS => ?_)
              have hR : MR S9 a0 t (iI (iI gk 26 ((8 * gt) + kk) 0) 6 kk (((iI gk 26 ((8 * gt) + kk) 0).1 6 kk) + p2)) := by rw [e1]; exact hR.wI
              replace hO : MO S S9 a0 t := by rw [e1]; exact hO.wI
              clear e1
              refine lv_iconst (v := 1) hx hb dX11_take_266 (by decide) ?_
              exact k_zret C hr hlk hW hS hB ⟨hO, by rw [mTake, if_pos ⟨q_6, q_17⟩, nI_clamp (by omega), nI_clamp (by omega), mTkOk_b (g := iF g 1100 0) (n := n) (gt := gt) (kk := kk) (x := p2) (Int32.not_lt.mpr c_64) (hE.symm.trans (mTkD_done gt kk n _ gk (Int32.not_lt.mpr c_85))) ]; dsimp only; exact hR, by rw [mTake, if_pos ⟨q_6, q_17⟩, nI_clamp (by omega), nI_clamp (by omega), mTkOk_b (g := iF g 1100 0) (n := n) (gt := gt) (kk := kk) (x := p2) (Int32.not_lt.mpr c_64) (hE.symm.trans (mTkD_done gt kk n _ gk (Int32.not_lt.mpr c_85))) ]⟩ (by decide) (Nat.le_refl _) (Nat.le_refl _) dX11_take_267
            · refine lv_iconst (v := (-1)) hx hb dX11_take_88 (by decide) ?_
              refine lv_istore (lv' := [(6, .int (-1)), (0, .ref a0), (1, .int (nI gt)), (2, .int (nI kk)), (3, .int p2), (4, .int (nI ((8 * gt) + kk))), (5, .int x5)]) hx hb dX11_take_89 hl (by decide) rfl (fun ls hl => ?_)
              refine lv_iconst (v := 0) hx hb dX11_take_91 (by decide) ?_
              refine lv_istore (lv' := [(7, .int 0), (6, .int (-1)), (0, .ref a0), (1, .int (nI gt)), (2, .int (nI kk)), (3, .int p2), (4, .int (nI ((8 * gt) + kk))), (5, .int x5)]) hx hb dX11_take_92 hl (by decide) rfl (fun ls hl => ?_)
              refine lv_iconst (v := 0) hx hb dX11_take_94 (by decide) ?_
              refine lv_istore (lv' := [(8, .int 0), (7, .int 0), (6, .int (-1)), (0, .ref a0), (1, .int (nI gt)), (2, .int (nI kk)), (3, .int p2), (4, .int (nI ((8 * gt) + kk))), (5, .int x5)]) hx hb dX11_take_95 hl (by decide) rfl (fun ls hl => ?_)
              have lq : ∀ (d_lq j : Nat) (x6 : Int32) (x7 : Int32) (H : Heap) (locs : List Loc) (ls : Array Slot), j ≤ n → n - j < d_lq → x6 = (mBest gk gt kk j).1 → x7 = (mBest gk gt kk j).2 → PW D cy B Sk H → va_S (Aw B) s.heap H locs → lv_has ls 10 [(0, .ref a0), (1, .int (nI gt)), (2, .int (nI kk)), (3, .int p2), (4, .int (nI ((8 * gt) + kk))), (5, .int x5), (6, .int x6), (7, .int x7), (8, .int (nI j))] → W p l e ({ frames := 4, cells := 0, slots := 0, locals := 89 }) s m [.ref a0, .int (nI gt), .int (nI kk), .int p2].toArray below meth c H locs 0 0 (MQ below (va_Qi (fun r S2 => MO S S2 a0 t ∧ MR S2 a0 t (mTake g n (nI gt) (nI kk) p2).1 ∧ r = (mTake g n (nI gt) (nI kk) p2).2) (PreW D cy B s0) (Aw B)) [.ref a0, .int (nI gt), .int (nI kk), .int p2].toArray s 0 0 (Aw B)) (F0 m 97 ls []) := by
                intro d_lq
                induction d_lq with
                | zero => intro j x6 x7 H locs ls _ hd; exact absurd hd (Nat.not_lt_zero _)
                | succ d_lq ih_lq =>
                  intro j x6 x7 H locs ls hk hd e6 e7 hW hS hl
                  refine lv_iload hx hb dX11_take_97 (lv_at hl 8 rfl) ?_
                  refine lv_aload_n hx hb dX11_take_99 rfl (lv_at hl 0 rfl) ?_
                  refine g_1107 C hinX11 hW hR.1.1 l111 dX11_take_100 ?_
                  refine top_i (show fI Sk 1107 a0 = nI n from (hR.f 1107).trans hn) ?_
                  refine lv_icmp_ge (tgt := 173) hx hb dX11_take_103 (by decide) (fun c_103 => ?_) (fun c_103 => ?_)
                  · have q_103 : n ≤ j := (nI_leI (a := n) (b := j) (by omega) (by omega)).mp c_103
                    have hx2 : 1 ≤ x5.toInt := by have z := Int32.not_le.mp c_85; rw [Int32.lt_iff_toInt_lt] at z; have : (0 : Int32).toInt = 0 := rfl; omega
                    obtain ⟨b, hb1, eb, hb3, hb4⟩ := best_ok (g := gk) (gt := gt) (kk := kk) hn3 (by omega)
                    have hs9 := mTkS_ok hg9 hn3 hk1 hl1 hx2 hx1
                    replace hl : lv_has ls 10 [(0, .ref a0), (1, .int (nI gt)), (2, .int (nI kk)), (3, .int p2), (4, .int (nI ((8 * gt) + kk))), (5, .int x5), (6, .int (nI b)), (7, .int x7), (8, .int (nI j))] := by
                      have e5 : x6 = nI b := (by rw [e6, show j = n by omega]; exact eb)
                      rw [e5] at hl
                      exact hl
                    refine lv_aload_n hx hb dX11_take_173 rfl (lv_at hl 0 rfl) ?_
                    refine g_1128 C hinX11 hW hR.1.1 (mA_28 hR.1) l91 dX11_take_174 ?_
                    refine lv_iload hx hb dX11_take_177 (lv_at hl 6 rfl) ?_
                    refine a_Iload C hW (j := b) (mK_28 hR.1) (mN_28 hR.1) rfl (by omega) (by omega) dX11_take_179 ?_
                    refine top_i (show aI Sk (t 28) b = gk.1 28 b from hR.i 28 b) ?_
                    refine lv_iload hx hb dX11_take_180 (lv_at hl 5 rfl) ?_
                    refine lv_icmp_ge (tgt := 195) hx hb dX11_take_182 (by decide) (fun c_182 => ?_) (fun c_182 => ?_)
                    · refine lv_iload hx hb dX11_take_195 (lv_at hl 5 rfl) ?_
                      refine lv_istore (lv' := [(8, .int x5), (0, .ref a0), (1, .int (nI gt)), (2, .int (nI kk)), (3, .int p2), (4, .int (nI ((8 * gt) + kk))), (5, .int x5), (6, .int (nI b)), (7, .int x7)]) hx hb dX11_take_197 hl (by decide) rfl (fun ls hl => ?_)
                      refine lv_aload_n hx hb dX11_take_199 rfl (lv_at hl 1 rfl) ?_
                      refine g_1128 C hinX11 hW hR.1.1 (mA_28 hR.1) l91 dX11_take_200 ?_
                      refine lv_iload hx hb dX11_take_203 (lv_at hl 7 rfl) ?_
                      refine lv_aload_n hx hb dX11_take_205 rfl (lv_at hl 1 rfl) ?_
                      refine g_1128 C hinX11 hW hR.1.1 (mA_28 hR.1) l91 dX11_take_206 ?_
                      refine lv_iload hx hb dX11_take_209 (lv_at hl 7 rfl) ?_
                      refine a_Iload C hW (j := b) (mK_28 hR.1) (mN_28 hR.1) rfl (by omega) (by omega) dX11_take_211 ?_
                      refine top_i (show aI Sk (t 28) b = gk.1 28 b from hR.i 28 b) ?_
                      refine lv_iload hx hb dX11_take_212 (lv_at hl 0 rfl) ?_
                      refine lv_isub hx hb dX11_take_214 ?_
                      refine a_Istore C hW hS (j := b) (mK_28 hR.1) (mN_28 hR.1) rfl (by omega) (by omega) dX11_take_215 (fun S10 H locs e1 hW hS => ?_)
                      have hR : MR S10 a0 t (iI gk 28 b ((gk.1 28 b) - x5)) := by rw [e1]; exact hR.wI
                      replace hO : MO S S10 a0 t := by rw [e1]; exact hO.wI
                      clear e1
                      refine lv_iload hx hb dX11_take_216 (lv_at hl 6 rfl) ?_
                      refine lv_iload hx hb dX11_take_218 (lv_at hl 0 rfl) ?_
                      refine lv_isub hx hb dX11_take_220 ?_
                      refine lv_istore (lv' := [(5, .int (x5 - x5)), (8, .int x5), (0, .ref a0), (1, .int (nI gt)), (2, .int (nI kk)), (3, .int p2), (4, .int (nI ((8 * gt) + kk))), (6, .int (nI b)), (7, .int x7)]) hx hb dX11_take_221 hl (by decide) rfl (fun ls hl => ?_)
                      refine lv_aload_n hx hb dX11_take_223 rfl (lv_at hl 2 rfl) ?_
                      refine g_1128 C hinX11 hW hR.1.1 (mA_28 hR.1) l91 dX11_take_224 ?_
                      refine lv_iload hx hb dX11_take_227 (lv_at hl 7 rfl) ?_
                      refine a_Iload C hW (j := b) (mK_28 hR.1) (mN_28 hR.1) rfl (by omega) (by omega) dX11_take_229 ?_
                      refine top_i (show aI S10 (t 28) b = (iI gk 28 b ((gk.1 28 b) - x5)).1 28 b from hR.i 28 b) ?_
                      refine top_i (show (iI gk 28 b ((gk.1 28 b) - x5)).1 28 b = gk.1 28 b - x5 from (by simp [iI, va_up])) ?_
                      refine lv_if_ne (tgt := 241) hx hb dX11_take_230 (by decide) (fun c_230 => ?_) (fun c_230 => ?_)
                      · refine lv_goto (tgt := 83) hx hb dX11_take_241 (by decide) ?_
                        exact ih_lp (x5 - x5) (mTkS gk gt kk n x5) _ _ _ ls (by have z := hs9.2.2.1; have y := hs9.2.2.2; rw [eb, nI_clamp (by omega), mTk1, if_neg (Int32.not_lt.mpr c_182)] at z y; omega) (by rw [mTkS, eb, nI_clamp (by omega), mTk1, if_neg (Int32.not_lt.mpr c_182), mTk2, if_neg c_230]; exact hR) hO (by rw [← hE, mTkD, if_pos (Int32.not_le.mp c_85), eb, nI_clamp (by omega), mTk1, if_neg (Int32.not_lt.mpr c_182)]) ((congrFun (congrArg Prod.snd (mTkS_f gk gt kk n x5)) 1107).trans hn) hs9.1 (by have z := hs9.2.1; rw [eb, nI_clamp (by omega), mTk1, if_neg (Int32.not_lt.mpr c_182)] at z; exact z) (by have z := hs9.2.2.1; rw [eb, nI_clamp (by omega), mTk1, if_neg (Int32.not_lt.mpr c_182)] at z; omega) hW hS (lv_sub hl [2, 3, 4, 5, 6, 0] rfl)
                      · refine lv_aload_n hx hb dX11_take_233 rfl (lv_at hl 2 rfl) ?_
                        refine g_1127 C hinX11 hW hR.1.1 (mA_27 hR.1) l88 dX11_take_234 ?_
                        refine lv_iload hx hb dX11_take_237 (lv_at hl 7 rfl) ?_
                        refine lv_iconst (v := 0) hx hb dX11_take_239 (by decide) ?_
                        refine a_Istore C hW hS (j := b) (mK_27 hR.1) (mN_27 hR.1) rfl (by omega) (by omega) dX11_take_240 (fun S11 H locs e1 hW hS => ?_)
                        have hR : MR S11 a0 t (iI (iI gk 28 b ((gk.1 28 b) - x5)) 27 b 0) := by rw [e1]; exact hR.wI
                        replace hO : MO S S11 a0 t := by rw [e1]; exact hO.wI
                        clear e1
                        refine lv_goto (tgt := 83) hx hb dX11_take_241 (by decide) ?_
                        exact ih_lp (x5 - x5) (mTkS gk gt kk n x5) _ _ _ ls (by have z := hs9.2.2.1; have y := hs9.2.2.2; rw [eb, nI_clamp (by omega), mTk1, if_neg (Int32.not_lt.mpr c_182)] at z y; omega) (by rw [mTkS, eb, nI_clamp (by omega), mTk1, if_neg (Int32.not_lt.mpr c_182), mTk2, if_pos c_230]; exact hR) hO (by rw [← hE, mTkD, if_pos (Int32.not_le.mp c_85), eb, nI_clamp (by omega), mTk1, if_neg (Int32.not_lt.mpr c_182)]) ((congrFun (congrArg Prod.snd (mTkS_f gk gt kk n x5)) 1107).trans hn) hs9.1 (by have z := hs9.2.1; rw [eb, nI_clamp (by omega), mTk1, if_neg (Int32.not_lt.mpr c_182)] at z; exact z) (by have z := hs9.2.2.1; rw [eb, nI_clamp (by omega), mTk1, if_neg (Int32.not_lt.mpr c_182)] at z; omega) hW hS (lv_sub hl [2, 3, 4, 5, 6, 0] rfl)
                    · refine lv_aload_n hx hb dX11_take_185 rfl (lv_at hl 0 rfl) ?_
                      refine g_1128 C hinX11 hW hR.1.1 (mA_28 hR.1) l91 dX11_take_186 ?_
                      refine lv_iload hx hb dX11_take_189 (lv_at hl 6 rfl) ?_
                      refine a_Iload C hW (j := b) (mK_28 hR.1) (mN_28 hR.1) rfl (by omega) (by omega) dX11_take_191 ?_
                      refine top_i (show aI Sk (t 28) b = gk.1 28 b from hR.i 28 b) ?_
                      refine lv_goto (tgt := 197) hx hb dX11_take_192 (by decide) ?_
                      refine lv_istore (lv' := [(8, .int (gk.1 28 b)), (0, .ref a0), (1, .int (nI gt)), (2, .int (nI kk)), (3, .int p2), (4, .int (nI ((8 * gt) + kk))), (5, .int x5), (6, .int (nI b)), (7, .int x7)]) hx hb dX11_take_197 hl (by decide) rfl (fun ls hl => ?_)
                      refine lv_aload_n hx hb dX11_take_199 rfl (lv_at hl 1 rfl) ?_
                      refine g_1128 C hinX11 hW hR.1.1 (mA_28 hR.1) l91 dX11_take_200 ?_
                      refine lv_iload hx hb dX11_take_203 (lv_at hl 7 rfl) ?_
                      refine lv_aload_n hx hb dX11_take_205 rfl (lv_at hl 1 rfl) ?_
                      refine g_1128 C hinX11 hW hR.1.1 (mA_28 hR.1) l91 dX11_take_206 ?_
                      refine lv_iload hx hb dX11_take_209 (lv_at hl 7 rfl) ?_
                      refine a_Iload C hW (j := b) (mK_28 hR.1) (mN_28 hR.1) rfl (by omega) (by omega) dX11_take_211 ?_
                      refine top_i (show aI Sk (t 28) b = gk.1 28 b from hR.i 28 b) ?_
                      refine lv_iload hx hb dX11_take_212 (lv_at hl 0 rfl) ?_
                      refine lv_isub hx hb dX11_take_214 ?_
                      refine a_Istore C hW hS (j := b) (mK_28 hR.1) (mN_28 hR.1) rfl (by omega) (by omega) dX11_take_215 (fun S12 H locs e1 hW hS => ?_)
                      have hR : MR S12 a0 t (iI gk 28 b ((gk.1 28 b) - (gk.1 28 b))) := by rw [e1]; exact hR.wI
                      replace hO : MO S S12 a0 t := by rw [e1]; exact hO.wI
                      clear e1
                      refine lv_iload hx hb dX11_take_216 (lv_at hl 6 rfl) ?_
                      refine lv_iload hx hb dX11_take_218 (lv_at hl 0 rfl) ?_
                      refine lv_isub hx hb dX11_take_220 ?_
                      refine lv_istore (lv' := [(5, .int (x5 - (gk.1 28 b))), (8, .int (gk.1 28 b)), (0, .ref a0), (1, .int (nI gt)), (2, .int (nI kk)), (3, .int p2), (4, .int (nI ((8 * gt) + kk))), (6, .int (nI b)), (7, .int x7)]) hx hb dX11_take_221 hl (by decide) rfl (fun ls hl => ?_)
                      refine lv_aload_n hx hb dX11_take_223 rfl (lv_at hl 2 rfl) ?_
                      refine g_1128 C hinX11 hW hR.1.1 (mA_28 hR.1) l91 dX11_take_224 ?_
                      refine lv_iload hx hb dX11_take_227 (lv_at hl 7 rfl) ?_
                      refine a_Iload C hW (j := b) (mK_28 hR.1) (mN_28 hR.1) rfl (by omega) (by omega) dX11_take_229 ?_
                      refine top_i (show aI S12 (t 28) b = (iI gk 28 b ((gk.1 28 b) - (gk.1 28 b))).1 28 b from hR.i 28 b) ?_
                      refine top_i (show (iI gk 28 b ((gk.1 28 b) - (gk.1 28 b))).1 28 b = gk.1 28 b - (gk.1 28 b) from (by simp [iI, va_up])) ?_
                      refine lv_if_ne (tgt := 241) hx hb dX11_take_230 (by decide) (fun c_230 => ?_) (fun c_230 => ?_)
                      · refine lv_goto (tgt := 83) hx hb dX11_take_241 (by decide) ?_
                        exact ih_lp (x5 - (gk.1 28 b)) (mTkS gk gt kk n x5) _ _ _ ls (by have z := hs9.2.2.1; have y := hs9.2.2.2; rw [eb, nI_clamp (by omega), mTk1, if_pos (Int32.not_le.mp c_182)] at z y; omega) (by rw [mTkS, eb, nI_clamp (by omega), mTk1, if_pos (Int32.not_le.mp c_182), mTk2, if_neg c_230]; exact hR) hO (by rw [← hE, mTkD, if_pos (Int32.not_le.mp c_85), eb, nI_clamp (by omega), mTk1, if_pos (Int32.not_le.mp c_182)]) ((congrFun (congrArg Prod.snd (mTkS_f gk gt kk n x5)) 1107).trans hn) hs9.1 (by have z := hs9.2.1; rw [eb, nI_clamp (by omega), mTk1, if_pos (Int32.not_le.mp c_182)] at z; exact z) (by have z := hs9.2.2.1; rw [eb, nI_clamp (by omega), mTk1, if_pos (Int32.not_le.mp c_182)] at z; omega) hW hS (lv_sub hl [2, 3, 4, 5, 6, 0] rfl)
                      · refine lv_aload_n hx hb dX11_take_233 rfl (lv_at hl 2 rfl) ?_
                        refine g_1127 C hinX11 hW hR.1.1 (mA_27 hR.1) l88 dX11_take_234 ?_
                        refine lv_iload hx hb dX11_take_237 (lv_at hl 7 rfl) ?_
                        refine lv_iconst (v := 0) hx hb dX11_take_239 (by decide) ?_
                        refine a_Istore C hW hS (j := b) (mK_27 hR.1) (mN_27 hR.1) rfl (by omega) (by omega) dX11_take_240 (fun S13 H locs e1 hW hS => ?_)
                        have hR : MR S13 a0 t (iI (iI gk 28 b ((gk.1 28 b) - (gk.1 28 b))) 27 b 0) := by rw [e1]; exact hR.wI
                        replace hO : MO S S13 a0 t := by rw [e1]; exact hO.wI
                        clear e1
                        refine lv_goto (tgt := 83) hx hb dX11_take_241 (by decide) ?_
                        exact ih_lp (x5 - (gk.1 28 b)) (mTkS gk gt kk n x5) _ _ _ ls (by have z := hs9.2.2.1; have y := hs9.2.2.2; rw [eb, nI_clamp (by omega), mTk1, if_pos (Int32.not_le.mp c_182)] at z y; omega) (by rw [mTkS, eb, nI_clamp (by omega), mTk1, if_pos (Int32.not_le.mp c_182), mTk2, if_pos c_230]; exact hR) hO (by rw [← hE, mTkD, if_pos (Int32.not_le.mp c_85), eb, nI_clamp (by omega), mTk1, if_pos (Int32.not_le.mp c_182)]) ((congrFun (congrArg Prod.snd (mTkS_f gk gt kk n x5)) 1107).trans hn) hs9.1 (by have z := hs9.2.1; rw [eb, nI_clamp (by omega), mTk1, if_pos (Int32.not_le.mp c_182)] at z; exact z) (by have z := hs9.2.2.1; rw [eb, nI_clamp (by omega), mTk1, if_pos (Int32.not_le.mp c_182)] at z; omega) hW hS (lv_sub hl [2, 3, 4, 5, 6, 0] rfl)
                  · have q_103 : ¬ (n ≤ j) := fun z => c_103 ((nI_leI (a := n) (b := j) (by omega) (by omega)).mpr z)
                    refine lv_aload_n hx hb dX11_take_106 rfl (lv_at hl 0 rfl) ?_
                    refine lv_iload_n hx hb dX11_take_107 rfl (lv_at hl 1 rfl) ?_
                    refine lv_iload_n hx hb dX11_take_108 rfl (lv_at hl 2 rfl) ?_
                    refine lv_iload hx hb dX11_take_109 (lv_at hl 8 rfl) ?_
                    refine k_callVi (As := [.int (nI gt), .int (nI kk), .int (nI j)]) (rest := []) C hml (c_X11_isHold (gt := gt) (kk := kk) (h := j) hR (by omega)) (cwV 3 hts gX11_take_X11_isHold rfl rfl rfl (by decide +kernel) ⟨by decide, by decide⟩) hW hS hB (hR.1.1).1 (pAt_11 (hR.1.1).2) rfl rfl hl.1 rfl (Nat.le_of_ble_eq_true rfl) dX11_take_111 ⟨Nat.le_of_ble_eq_true rfl, Nat.le_of_ble_eq_true rfl⟩ (fun r9 S14 H locs hp9 hW hS => ?_)
                    obtain ⟨e8, e9⟩ := hp9
                    rw [e8] at hW
                    subst e9
                    refine lv_if_eq (tgt := 167) hx hb dX11_take_114 (by decide) (fun c_114 => ?_) (fun c_114 => ?_)
                    · have q_114 : ¬ (mHold gk gt kk j) := ite0.mp c_114
                      refine lv_iinc (v := nI (j + 1)) (lv' := [(8, .int (nI (j + 1))), (0, .ref a0), (1, .int (nI gt)), (2, .int (nI kk)), (3, .int p2), (4, .int (nI ((8 * gt) + kk))), (5, .int x5), (6, .int x6), (7, .int x7)]) hx hb dX11_take_167 hl (k := 8) rfl (nI_add j 1) (by decide) rfl (fun ls hl => ?_)
                      refine lv_goto (tgt := 97) hx hb dX11_take_170 (by decide) ?_
                      exact ih_lq (j + 1) _ _ _ _ ls (by omega) (by omega) (by rw [mBest_b (fun z => q_114 z.1.1)]; exact e6) (by rw [mBest_b (fun z => q_114 z.1.1)]; exact e7) hW hS (lv_sub hl [1, 2, 3, 4, 5, 6, 7, 8, 0] rfl)
                    · have q_114 : (mHold gk gt kk j) := ite1.mp c_114
                      refine lv_aload_n hx hb dX11_take_117 rfl (lv_at hl 0 rfl) ?_
                      refine lv_iload_n hx hb dX11_take_118 rfl (lv_at hl 1 rfl) ?_
                      refine lv_iload hx hb dX11_take_119 (lv_at hl 8 rfl) ?_
                      refine k_callVi (As := [.int (nI gt), .int (nI j)]) (rest := []) C hml (c_X11_isLive (gt := gt) (h := j) hR (by omega) (by omega)) (cwV 2 hts gX11_take_X11_isLive rfl rfl rfl (by decide +kernel) ⟨by decide, by decide⟩) hW hS hB (hR.1.1).1 (pAt_11 (hR.1.1).2) rfl rfl hl.1 rfl (Nat.le_of_ble_eq_true rfl) dX11_take_121 ⟨Nat.le_of_ble_eq_true rfl, Nat.le_of_ble_eq_true rfl⟩ (fun r9 S15 H locs hp9 hW hS => ?_)
                      obtain ⟨e8, e9⟩ := hp9
                      rw [e8] at hW
                      subst e9
                      refine lv_if_eq (tgt := 167) hx hb dX11_take_124 (by decide) (fun c_124 => ?_) (fun c_124 => ?_)
                      · have q_124 : ¬ (mLive gk gt j) := ite0.mp c_124
                        refine lv_iinc (v := nI (j + 1)) (lv' := [(8, .int (nI (j + 1))), (0, .ref a0), (1, .int (nI gt)), (2, .int (nI kk)), (3, .int p2), (4, .int (nI ((8 * gt) + kk))), (5, .int x5), (6, .int x6), (7, .int x7)]) hx hb dX11_take_167 hl (k := 8) rfl (nI_add j 1) (by decide) rfl (fun ls hl => ?_)
                        refine lv_goto (tgt := 97) hx hb dX11_take_170 (by decide) ?_
                        exact ih_lq (j + 1) _ _ _ _ ls (by omega) (by omega) (by rw [mBest_b (fun z => q_124 z.1.2)]; exact e6) (by rw [mBest_b (fun z => q_124 z.1.2)]; exact e7) hW hS (lv_sub hl [1, 2, 3, 4, 5, 6, 7, 8, 0] rfl)
                      · have q_124 : (mLive gk gt j) := ite1.mp c_124
                        refine lv_aload_n hx hb dX11_take_127 rfl (lv_at hl 0 rfl) ?_
                        refine g_1130 C hinX11 hW hR.1.1 (mA_30 hR.1) l97 dX11_take_128 ?_
                        refine lv_iload hx hb dX11_take_131 (lv_at hl 8 rfl) ?_
                        refine a_Iload C hW (j := j) (mK_30 hR.1) (mN_30 hR.1) rfl (by omega) (by omega) dX11_take_133 ?_
                        refine top_i (show aI Sk (t 30) j = gk.1 30 j from hR.i 30 j) ?_
                        refine k_callSi (As := [.int (gk.1 30 j)]) (rest := []) C hml (c_X11_liveTime) (va_cwS 1 hts gX11_take_X11_liveTime rfl rfl rfl (by decide +kernel) ⟨by decide, by decide⟩) hW hS hB rfl hl.1 rfl (Nat.le_of_ble_eq_true rfl) dX11_take_134 ⟨Nat.le_of_ble_eq_true rfl, Nat.le_of_ble_eq_true rfl⟩ (fun r9 S16 H locs hp9 hW hS => ?_)
                        obtain ⟨e8, e9⟩ := hp9
                        rw [e8] at hW
                        subst e9
                        refine lv_aload_n hx hb dX11_take_137 rfl (lv_at hl 0 rfl) ?_
                        refine lv_iload_n hx hb dX11_take_138 rfl (lv_at hl 1 rfl) ?_
                        refine lv_iload hx hb dX11_take_139 (lv_at hl 8 rfl) ?_
                        refine k_callVi (As := [.int (nI gt), .int (nI j)]) (rest := [.int (998 * (gk.1 30 j) / 1000)]) C hml (c_X11_age (gt := gt) (h := j) hR (by omega) (by omega)) (cwV 2 hts gX11_take_X11_age rfl rfl rfl (by decide +kernel) ⟨by decide, by decide⟩) hW hS hB (hR.1.1).1 (pAt_11 (hR.1.1).2) rfl rfl hl.1 rfl (Nat.le_of_ble_eq_true rfl) dX11_take_141 ⟨Nat.le_of_ble_eq_true rfl, Nat.le_of_ble_eq_true rfl⟩ (fun r9 S17 H locs hp9 hW hS => ?_)
                        obtain ⟨e8, e9⟩ := hp9
                        rw [e8] at hW
                        subst e9
                        refine lv_isub hx hb dX11_take_144 ?_
                        refine lv_istore (lv' := [(9, .int ((998 * (gk.1 30 j) / 1000) - (mAge gk gt j))), (0, .ref a0), (1, .int (nI gt)), (2, .int (nI kk)), (3, .int p2), (4, .int (nI ((8 * gt) + kk))), (5, .int x5), (6, .int x6), (7, .int x7), (8, .int (nI j))]) hx hb dX11_take_145 hl (by decide) rfl (fun ls hl => ?_)
                        refine lv_iload hx hb dX11_take_147 (lv_at hl 7 rfl) ?_
                        refine lv_if_lt (tgt := 159) hx hb dX11_take_149 (by decide) (fun c_149 => ?_) (fun c_149 => ?_)
                        · refine lv_iload hx hb dX11_take_159 (lv_at hl 9 rfl) ?_
                          refine lv_istore (lv' := [(6, .int (nI j)), (9, .int ((998 * (gk.1 30 j) / 1000) - (mAge gk gt j))), (0, .ref a0), (1, .int (nI gt)), (2, .int (nI kk)), (3, .int p2), (4, .int (nI ((8 * gt) + kk))), (5, .int x5), (7, .int x7), (8, .int (nI j))]) hx hb dX11_take_161 hl (by decide) rfl (fun ls hl => ?_)
                          refine lv_iload hx hb dX11_take_163 (lv_at hl 1 rfl) ?_
                          refine lv_istore (lv' := [(7, .int ((998 * (gk.1 30 j) / 1000) - (mAge gk gt j))), (6, .int (nI j)), (9, .int ((998 * (gk.1 30 j) / 1000) - (mAge gk gt j))), (0, .ref a0), (1, .int (nI gt)), (2, .int (nI kk)), (3, .int p2), (4, .int (nI ((8 * gt) + kk))), (5, .int x5), (8, .int (nI j))]) hx hb dX11_take_165 hl (by decide) rfl (fun ls hl => ?_)
                          refine lv_iinc (v := nI (j + 1)) (lv' := [(8, .int (nI (j + 1))), (7, .int ((998 * (gk.1 30 j) / 1000) - (mAge gk gt j))), (6, .int (nI j)), (9, .int ((998 * (gk.1 30 j) / 1000) - (mAge gk gt j))), (0, .ref a0), (1, .int (nI gt)), (2, .int (nI kk)), (3, .int p2), (4, .int (nI ((8 * gt) + kk))), (5, .int x5)]) hx hb dX11_take_167 hl (k := 9) rfl (nI_add j 1) (by decide) rfl (fun ls hl => ?_)
                          refine lv_goto (tgt := 97) hx hb dX11_take_170 (by decide) ?_
                          exact ih_lq (j + 1) _ _ _ _ ls (by omega) (by omega) (by rw [mBest_a ⟨⟨q_114, q_124⟩, Or.inl (by rw [← e6]; exact c_149)⟩]) (by rw [mBest_a ⟨⟨q_114, q_124⟩, Or.inl (by rw [← e6]; exact c_149)⟩]) hW hS (lv_sub hl [4, 5, 6, 7, 8, 9, 2, 1, 0] rfl)
                        · refine lv_iload hx hb dX11_take_152 (lv_at hl 0 rfl) ?_
                          refine lv_iload hx hb dX11_take_154 (lv_at hl 8 rfl) ?_
                          refine lv_icmp_ge (tgt := 167) hx hb dX11_take_156 (by decide) (fun c_156 => ?_) (fun c_156 => ?_)
                          · refine lv_iinc (v := nI (j + 1)) (lv' := [(8, .int (nI (j + 1))), (9, .int ((998 * (gk.1 30 j) / 1000) - (mAge gk gt j))), (0, .ref a0), (1, .int (nI gt)), (2, .int (nI kk)), (3, .int p2), (4, .int (nI ((8 * gt) + kk))), (5, .int x5), (6, .int x6), (7, .int x7)]) hx hb dX11_take_167 hl (k := 9) rfl (nI_add j 1) (by decide) rfl (fun ls hl => ?_)
                            refine lv_goto (tgt := 97) hx hb dX11_take_170 (by decide) ?_
                            exact ih_lq (j + 1) _ _ _ _ ls (by omega) (by omega) (by rw [mBest_b (fun z => z.2.elim (fun y => c_149 (by rw [e6]; exact y)) (fun y => absurd y (Int32.not_lt.mpr (by rw [← e7]; exact c_156))))]; exact e6) (by rw [mBest_b (fun z => z.2.elim (fun y => c_149 (by rw [e6]; exact y)) (fun y => absurd y (Int32.not_lt.mpr (by rw [← e7]; exact c_156))))]; exact e7) hW hS (lv_sub hl [2, 3, 4, 5, 6, 7, 8, 9, 0] rfl)
                          · refine lv_iload hx hb dX11_take_159 (lv_at hl 9 rfl) ?_
                            refine lv_istore (lv' := [(6, .int (nI j)), (9, .int ((998 * (gk.1 30 j) / 1000) - (mAge gk gt j))), (0, .ref a0), (1, .int (nI gt)), (2, .int (nI kk)), (3, .int p2), (4, .int (nI ((8 * gt) + kk))), (5, .int x5), (7, .int x7), (8, .int (nI j))]) hx hb dX11_take_161 hl (by decide) rfl (fun ls hl => ?_)
                            refine lv_iload hx hb dX11_take_163 (lv_at hl 1 rfl) ?_
                            refine lv_istore (lv' := [(7, .int ((998 * (gk.1 30 j) / 1000) - (mAge gk gt j))), (6, .int (nI j)), (9, .int ((998 * (gk.1 30 j) / 1000) - (mAge gk gt j))), (0, .ref a0), (1, .int (nI gt)), (2, .int (nI kk)), (3, .int p2), (4, .int (nI ((8 * gt) + kk))), (5, .int x5), (8, .int (nI j))]) hx hb dX11_take_165 hl (by decide) rfl (fun ls hl => ?_)
                            refine lv_iinc (v := nI (j + 1)) (lv' := [(8, .int (nI (j + 1))), (7, .int ((998 * (gk.1 30 j) / 1000) - (mAge gk gt j))), (6, .int (nI j)), (9, .int ((998 * (gk.1 30 j) / 1000) - (mAge gk gt j))), (0, .ref a0), (1, .int (nI gt)), (2, .int (nI kk)), (3, .int p2), (4, .int (nI ((8 * gt) + kk))), (5, .int x5)]) hx hb dX11_take_167 hl (k := 9) rfl (nI_add j 1) (by decide) rfl (fun ls hl => ?_)
                            refine lv_goto (tgt := 97) hx hb dX11_take_170 (by decide) ?_
                            exact ih_lq (j + 1) _ _ _ _ ls (by omega) (by omega) (by rw [mBest_a ⟨⟨q_114, q_124⟩, Or.inr (by rw [← e7]; exact Int32.not_le.mp c_156)⟩]) (by rw [mBest_a ⟨⟨q_114, q_124⟩, Or.inr (by rw [← e7]; exact Int32.not_le.mp c_156)⟩]) hW hS (lv_sub hl [4, 5, 6, 7, 8, 9, 2, 1, 0] rfl)
              exact lq (n - 0 + 1) 0 (-1) 0 _ _ ls (by omega) (by omega) rfl rfl hW hS (lv_sub hl [3, 4, 5, 6, 7, 8, 2, 1, 0] rfl)
        exact lp 10001 p2 (iI (iF g 1100 0) 22 ((8 * gt) + kk) ((iF g 1100 0).1 22 ((8 * gt) + kk) + p2)) _ _ _ ls (by have := hp9.2; omega) hR hO rfl hn hk9 hl9 hp9.2 hW hS (lv_sub hl [2, 3, 4, 5, 1, 0] rfl)
      · refine lv_aload_n hx hb dX11_take_67 rfl (lv_at hl 1 rfl) ?_
        refine g_1126 C hinX11 hW hR.1.1 (mA_26 hR.1) l85 dX11_take_68 ?_
        refine lv_iload hx hb dX11_take_71 (lv_at hl 0 rfl) ?_
        refine lv_dup2_11 hx hb dX11_take_73 rfl rfl ?_
        refine a_Iload C hW (j := ((8 * gt) + kk)) (mK_26 hR.1) (mN_26 hR.1) rfl (by omega) (by omega) dX11_take_74 ?_
        refine top_i (show aI S6 (t 26) ((8 * gt) + kk) = (iI (iF g 1100 0) 22 ((8 * gt) + kk) (((iF g 1100 0).1 22 ((8 * gt) + kk)) + p2)).1 26 ((8 * gt) + kk) from hR.i 26 ((8 * gt) + kk)) ?_
        refine lv_iconst (v := 1) hx hb dX11_take_75 (by decide) ?_
        refine lv_iadd hx hb dX11_take_76 ?_
        refine a_Istore C hW hS (j := ((8 * gt) + kk)) (mK_26 hR.1) (mN_26 hR.1) rfl (by omega) (by omega) dX11_take_77 (fun S18 H locs e1 hW hS => ?_)
        have hR : MR S18 a0 t (iI (iI (iF g 1100 0) 22 ((8 * gt) + kk) (((iF g 1100 0).1 22 ((8 * gt) + kk)) + p2)) 26 ((8 * gt) + kk) (((iI (iF g 1100 0) 22 ((8 * gt) + kk) (((iF g 1100 0).1 22 ((8 * gt) + kk)) + p2)).1 26 ((8 * gt) + kk)) + 1)) := by rw [e1]; exact hR.wI
        replace hO : MO S S18 a0 t := by rw [e1]; exact hO.wI
        clear e1
        refine lv_iconst (v := 0) hx hb dX11_take_78 (by decide) ?_
        exact k_zret C hr hlk hW hS hB ⟨hO, by rw [mTake, if_pos ⟨q_6, q_17⟩, nI_clamp (by omega), nI_clamp (by omega), mTkOk_a (g := iF g 1100 0) (n := n) (gt := gt) (kk := kk) (x := p2) (Int32.not_le.mp c_64)]; dsimp only; exact hR, by rw [mTake, if_pos ⟨q_6, q_17⟩, nI_clamp (by omega), nI_clamp (by omega), mTkOk_a (g := iF g 1100 0) (n := n) (gt := gt) (kk := kk) (x := p2) (Int32.not_le.mp c_64)]⟩ (by decide) (Nat.le_refl _) (Nat.le_refl _) dX11_take_79
