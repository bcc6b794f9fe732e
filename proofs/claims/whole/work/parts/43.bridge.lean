/-! both sides of the heap -/
def CFo (S S2 : PS) (y : Nat → Nat) (ob : Nat) : Prop := Fr S S2 (fun b => ¬ RK (pK S b) ∨ b = y 7 ∨ b = ob)
theorem CFo.of {S S2 : PS} {y : Nat → Nat} {ob : Nat} (h : CF S S2 y) : CFo S S2 y ob := Fr.mono h (fun b _ z => z.elim Or.inl (fun z => Or.inr (Or.inl z)))
theorem MR.cf {S S2 : PS} {a ob : Nat} {t y : Nat → Nat} {g : MS} (h : MR S a t g) (hF : CFo S S2 y ob) (hy : ∀ j, t j ≠ y 7) (ho : ∀ j, t j ≠ ob) (h7 : IsAt S 13 (y 7)) (h14 : IsAt S 14 ob) : MR S2 a t g := by
  have na : ¬ (¬ RK (pK S a) ∨ a = y 7 ∨ a = ob) := by
    rintro (z | z | z)
    · exact z (Or.inl h.1.1.2)
    · exact IsAt.ne h.1.1 h7 (by decide) z
    · exact IsAt.ne h.1.1 h14 (by decide) z
  have tb : ∀ e ∈ mTab, e.2.1 = 13 ∨ e.2.1 = 14 ∨ e.2.1 = 15 := by decide
  have nt : ∀ e ∈ mTab, ¬ (¬ RK (pK S (t e.1)) ∨ t e.1 = y 7 ∨ t e.1 = ob) := by
    intro e he
    rintro (z | z | z)
    · refine z ?_
      rw [(h.1.2.1 e he).2.1.2]
      rcases tb e he with u | u | u
      · exact Or.inr (Or.inl u)
      · exact Or.inr (Or.inr (Or.inl u))
      · exact Or.inr (Or.inr (Or.inr (Or.inl u)))
    · exact hy _ z
    · exact ho _ z
  obtain ⟨q1, -, q3, -⟩ := hF.2 a h.1.1.1 na
  refine ⟨⟨hF.1 _ _ h.1.1, fun e he => ?_, h.1.2.2⟩, fun j k hj => ?_, fun j k hj => ?_, fun f => (q1 f).trans (h.2.2.2 f)⟩
  · obtain ⟨a1, a2, a3⟩ := h.1.2.1 e he
    exact ⟨(q3 _).trans a1, hF.1 _ _ a2, ((hF.2 _ a2.1 (nt e he)).2.2.2.1).trans a3⟩
  · obtain ⟨e, he, rfl⟩ := inTab_mem j hj
    exact (congrFun (hF.2 _ (h.1.2.1 e he).2.1.1 (nt e he)).2.2.2.2.1 k).trans (h.2.1 _ k hj)
  · obtain ⟨e, he, rfl⟩ := inTab_mem j hj
    exact (congrFun (hF.2 _ (h.1.2.1 e he).2.1.1 (nt e he)).2.2.2.2.2.1 k).trans (h.2.2.1 _ k hj)
theorem CR.mo {S S2 : PS} {y t : Nat → Nat} {dE a : Nat} {g : MS} {c : CS} (h : CR S y dE g c) (hO : MO S S2 a t) (ha : IsAt S 11 a) (hy : ∀ j, t j ≠ y 7) : CR S2 y dE g c := by
  obtain ⟨o1, o2, o3, o4, o5, o6, o7, o8, o9⟩ := hO
  have e : S2 = (S.1, (fI S2, S.2.1.2), (aN S, aI S2, aJ S2, aQ S)) := by
    refine Prod.ext (Prod.ext o1 o2) (Prod.ext (Prod.ext rfl (Prod.ext o4 o3)) (Prod.ext o5 (Prod.ext rfl (Prod.ext rfl o6))))
  have eI : ∀ f k b, IsAt S k b → k ≠ 11 → fI S2 f b = fI S f b := fun f k b hb hk => o7 f b (IsAt.ne hb ha hk)
  have eA : aI S2 (y 7) = aI S (y 7) := o8 _ (fun j z => hy j z.symm)
  generalize fI S2 = F at e eI
  generalize aI S2 = A at e eA
  generalize aJ S2 = J at e
  subst e
  obtain ⟨hX, hQ⟩ := h
  have L := hX.lay
  have eM : ∀ m k0 k1 k2 k3 k4 k5 k6 k7, MsgAt S m k0 k1 k2 k3 k4 k5 k6 k7 → MsgAt (S.1, (F, S.2.1.2), (aN S, A, J, aQ S)) m k0 k1 k2 k3 k4 k5 k6 k7 := fun m k0 k1 k2 k3 k4 k5 k6 k7 z => by
    have q := fun f => eI f 6 m z.1 (by decide)
    exact ⟨z.1, (q _).trans z.2.1, (q _).trans z.2.2.1, (q _).trans z.2.2.2.1, (q _).trans z.2.2.2.2.1, (q _).trans z.2.2.2.2.2.1, (q _).trans z.2.2.2.2.2.2.1, (q _).trans z.2.2.2.2.2.2.2.1, (q _).trans z.2.2.2.2.2.2.2.2⟩
  have eL : ∀ b ea M, AL S dE b ea M → AL (S.1, (F, S.2.1.2), (aN S, A, J, aQ S)) dE b ea M := fun b ea M z => ⟨z.1, z.2.1, (eI _ 12 b z.1 (by decide)).trans z.2.2.1, z.2.2.2.1, z.2.2.2.2⟩
  refine ⟨⟨⟨L.k0, L.k1, L.k2, L.k3, L.k4, L.k5, L.k6, L.k7, L.n3, L.n4, L.n5, L.n6, L.n7, L.r1000, L.r1001, L.r1002, L.r700, L.r800, L.r801, L.r802, L.r803, L.gk, L.ga, L.r300, L.r301, L.dk, L.dn, L.da, L.tk, L.bk, L.ba, L.r100, L.ek, L.r202, L.ck, L.ca, fun i k hi hk => (eI _ 2 _ (L.ek (8 * i + k) (by omega)) (by decide)).trans (L.e0 i k hi hk), fun i k hi hk => (eI _ 2 _ (L.ek (8 * i + k) (by omega)) (by decide)).trans (L.e1 i k hi hk), L.inj⟩, hX.t0, fun i hi => (eI _ 9 _ (L.tk i hi) (by decide)).trans (hX.t1 i hi), fun i hi => (eI _ 3 _ (L.gk i hi) (by decide)).trans (hX.gb i hi), fun i hi => (congrFun eA i).trans (hX.hb i hi), (eI _ 8 _ L.k1 (by decide)).trans hX.ll, (eI _ 8 _ L.k1 (by decide)).trans hX.ln, fun i hi => (eI _ 1 _ (L.bk i hi) (by decide)).trans (hX.b1 i hi), fun i hi => (eI _ 1 _ (L.bk i hi) (by decide)).trans (hX.b2 i hi), fun i hi => (eI _ 1 _ (L.bk i hi) (by decide)).trans (hX.b3 i hi), fun i hi => (eI _ 1 _ (L.bk i hi) (by decide)).trans (hX.b4 i hi), fun i hi => (eI _ 1 _ (L.bk i hi) (by decide)).trans (hX.b5 i hi), fun i hi => (eI _ 2 _ (L.ek i hi) (by decide)).trans (hX.d3 i hi), fun i hi => (eI _ 2 _ (L.ek i hi) (by decide)).trans (hX.d4 i hi), fun i hi => (eI _ 2 _ (L.ek i hi) (by decide)).trans (hX.d5 i hi), fun i hi => (eI _ 2 _ (L.ek i hi) (by decide)).trans (hX.d6 i hi), fun i hi => (eI _ 2 _ (L.ek i hi) (by decide)).trans (hX.d7 i hi), fun i hi => (eI _ 2 _ (L.ek i hi) (by decide)).trans (hX.d8 i hi), fun i hi => (eI _ 0 _ (L.ck i hi) (by decide)).trans (hX.a0 i hi), fun i hi => (eI _ 0 _ (L.ck i hi) (by decide)).trans (hX.a1 i hi), fun i hi => (eI _ 0 _ (L.ck i hi) (by decide)).trans (hX.a2 i hi), fun i k hi hk => (hX.a3 i k hi hk).elim Or.inl (fun z => Or.inr ⟨z.1, z.2.elim (fun m q => ⟨m, q.1, eM _ _ _ _ _ _ _ _ _ q.2⟩)⟩), (eI _ 7 _ L.k2 (by decide)).trans hX.pc, fun q hq => (hX.ms q hq).elim Or.inl (fun z => Or.inr ⟨z.1, z.2.elim (fun m u => ⟨m, u.1, eM _ _ _ _ _ _ _ _ _ u.2⟩)⟩), fun i hi x hx => ?_, fun i hi x hx => ?_⟩, ⟨fun i hi => eL _ _ _ (hQ.hl i hi), fun i hi => eL _ _ _ (hQ.bl i hi), hQ.ai, hQ.nd⟩⟩
  · have z := hX.hv i hi x hx
    have q := fun f => eI f 4 _ z.1 (by decide)
    exact ⟨z.1, (q _).trans z.2.1, (q _).trans z.2.2.1, (q _).trans z.2.2.2.1, (q _).trans z.2.2.2.2.1, z.2.2.2.2.2⟩
  · have z := hX.bv i hi x hx
    have q := fun f => eI f 5 _ z.1 (by decide)
    exact ⟨z.1, (q _).trans z.2.1, (q _).trans z.2.2.1, (q _).trans z.2.2.2.1, z.2.2.2.2⟩
theorem CanH.same {c : CS} {g g2 : MS} {n : Nat} (h : CanH c g n) (h8 : g2.1 8 = g.1 8) (h27 : g2.1 27 = g.1 27) : CanH c g2 n := by
  intro i k hi hk
  rw [h i k hi hk]
  exact fil_congr (fun x _ => by unfold mHold; rw [h8, h27])
theorem CanH.lists {c c2 : CS} {g : MS} {n : Nat} (h : CanH c g n) (e : cP c2 = cP c) : CanH c2 g n := fun i k hi hk => by rw [e]; exact h i k hi hk
theorem CanB.lists {c c2 : CS} {g : MS} {n : Nat} (h : CanB c g n) (e1 : cQl c2 = cQl c) (e2 : cE c2 = cE c) : CanB c2 g n := fun k hk => by rw [e1, e2]; exact h k hk
/-! take -/
theorem tkD_27 {gt kk n : Nat} (hn : n ≤ 300) (hg : gt < 6) : ∀ fu g (left : Int32), HOk g gt kk n → left.toInt ≤ liveI g gt kk n → 0 ≤ left.toInt → left.toInt ≤ 10000 → (∀ j, j ≠ 27 → j ≠ 28 → (mTkD gt kk n fu g left).1 j = g.1 j) ∧ (mTkD gt kk n fu g left).2 = g.2 ∧ ∀ x, (mTkD gt kk n fu g left).1 27 x = g.1 27 x ∨ ((mTkD gt kk n fu g left).1 27 x = 0 ∧ mHold g gt kk x) := by
  intro fu
  induction fu with
  | zero => intro g left _ _ _ _; exact ⟨fun _ _ _ => rfl, rfl, fun _ => Or.inl rfl⟩
  | succ fu ih =>
    intro g left hk h1 h2 h3
    rw [mTkD]
    by_cases z : 0 < left
    · rw [if_pos z]
      have z2 : 1 ≤ left.toInt := by rw [Int32.lt_iff_toInt_lt] at z; have : (0 : Int32).toInt = 0 := rfl; omega
      obtain ⟨b, b1, b2, b3, b4⟩ := best_ok (g := g) (gt := gt) (kk := kk) hn (show 0 < liveI g gt kk n by omega)
      obtain ⟨k1, k2, k3, k4⟩ := mTkS_ok hg hn hk h1 z2 h3
      obtain ⟨i1, i2, i3⟩ := ih _ _ k1 k2 k4 (by omega)
      have o := mTk2_o g b (mTk1 g b left)
      have e : mTkS g gt kk n left = mTk2 g b (mTk1 g b left) := by unfold mTkS; rw [b2, nI_clamp (by omega)]
      refine ⟨fun j a1 a2 => (i1 j a1 a2).trans (by rw [e]; exact o.2 j a1 a2), i2.trans (by rw [e]; exact o.1), fun x => ?_⟩
      have h27 := mTk2_27 g b (mTk1 g b left) x
      rcases i3 x with u | ⟨u, v⟩
      · rw [u, e, h27]
        by_cases w : x = b ∧ g.1 28 b - mTk1 g b left = 0
        · rw [if_pos w]; exact Or.inr ⟨rfl, by rw [w.1]; exact b3⟩
        · rw [if_neg w]; exact Or.inl rfl
      · refine Or.inr ⟨u, ?_⟩
        rw [e] at v
        exact ((mTk2_hold hg).mp v).1
    · rw [if_neg z]; exact ⟨fun _ _ _ => rfl, rfl, fun _ => Or.inl rfl⟩
theorem tkOk_27 {g : MS} {gt kk n : Nat} {x : Int32} (hn : n ≤ 300) (hg : gt < 6) (hk : HOk g gt kk n) (hx : 1 ≤ x.toInt ∧ x.toInt ≤ 10000) : (mTkOk g n gt kk x).1.1 8 = g.1 8 ∧ (mTkOk g n gt kk x).1.1 9 = g.1 9 ∧ (mTkOk g n gt kk x).1.2.2 = g.2.2 ∧ ∀ z, (mTkOk g n gt kk x).1.1 27 z = g.1 27 z ∨ ((mTkOk g n gt kk x).1.1 27 z = 0 ∧ mHold g gt kk z) := by
  unfold mTkOk
  by_cases z : mLiveSum (iI g 22 (8 * gt + kk) (g.1 22 (8 * gt + kk) + x)) gt kk n < x
  · rw [if_pos z]; exact ⟨rfl, rfl, rfl, fun _ => Or.inl rfl⟩
  · rw [if_neg z]
    have hk2 : HOk (iI g 22 (8 * gt + kk) (g.1 22 (8 * gt + kk) + x)) gt kk n := hk
    rw [Int32.lt_iff_toInt_lt, (live_I hk2 hn n (Nat.le_refl _)).1] at z
    obtain ⟨a1, a2, a3⟩ := tkD_27 hn hg 10001 _ x hk2 (by omega) (by omega) hx.2
    exact ⟨a1 8 (by decide) (by decide), a1 9 (by decide) (by decide), congrArg Prod.snd a2, a3⟩
/-! work -/
theorem mWorkN_j (g : MS) (gt n : Nat) {j : Nat} (h : j < 21 ∨ j = 26 ∨ 28 ≤ j ∧ j ≤ 31) : ∀ m, (mWorkN g gt n m).1.1 j = g.1 j := by
  intro m
  induction m with
  | zero => rfl
  | succ m ih =>
    rw [mWorkN_fst]
    have e1 : (mGB (mWorkN g gt n m).1 gt m n).1.1 j = (mWorkN g gt n m).1.1 j := by
      rw [mGB_hs]; exact (gbFold_I gt m _ _).1 j (by omega) (by omega) (by omega)
    have e2 : (mWorkE (mGB (mWorkN g gt n m).1 gt m n) 0 gt m n).1.1 j = (mGB (mWorkN g gt n m).1 gt m n).1.1 j := by
      generalize mGB (mWorkN g gt n m).1 gt m n = q
      have e3 : (mW1 q.1 gt m).1 j = q.1.1 j := by
        show (iI (iI q.1 21 (8 * gt + m) _) 22 (8 * gt + m) 0).1 j = _
        rw [iI_j (by omega), iI_j (by omega)]
      unfold mWorkE
      split
      · show (mAskS (mW1 q.1 gt m) gt m _).1.1 j = _
        unfold mAskS
        rw [mSend_o _ _ _ _ _ _ _ _ (by omega) (by omega)]
        show (iI (iI (iI (mW1 q.1 gt m) 23 (8 * gt + m) _) 24 (8 * gt + m) 1) 25 (8 * gt + m) _).1 j = _
        rw [iI_j (by omega), iI_j (by omega), iI_j (by omega)]; exact e3
      · exact e3
    rw [e2, e1]; exact ih
theorem mWorkN_f (g : MS) (gt n m : Nat) : (mWorkN g gt n m).1.2.2 1100 = g.2.2 1100 := mWorkN_n g gt n m 1100 (by decide)
