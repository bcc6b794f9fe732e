/-! from the class's contracts to what the law's helpers owe -/
section WSPEC
variable {S S2 : PS} {y : Nat → Nat} {dE ob n c d : Nat} {g : MS} {c0 : CS} {f : Nat → Nat}
theorem wp_key {k : Nat} {p0 p1 p2 : Int32} (z : (0 ≤ p0 ∧ p0 ≤ 7) ∧ (0 ≤ p1 ∧ p1 ≤ 100000) ∧ (0 ≤ p2 ∧ p2 ≤ 1000000)) (e : p0 = nI k) (hk : k < 8) (h7 : IsAt S 13 (y 7)) (ho : IsAt S 14 ob) (hon : aN S ob = 1) (hCB : CanB c0 g n) (hH : CanH c0 g n) (h : CF S S2 y ∧ CR S2 y dE (mKeyOk (iF g 1100 0) n k p1 p2) c0) : WP S S2 y dE ob (mKey g n p0 p1 p2) n ∧ 0 = (mKey g n p0 p1 p2).2.2 1100 := by
  rw [mKey, if_pos z, e, nI_clamp (by omega)]
  exact ⟨WP.cf h.1 h7 ho hon h.2 (hCB.same rfl rfl) (hH.same rfl rfl), rfl⟩
theorem wp_length {p0 : Int32} (z : 10 ≤ p0 ∧ p0 ≤ 9000) (h7 : IsAt S 13 (y 7)) (ho : IsAt S 14 ob) (hon : aN S ob = 1) (hCB : CanB c0 g n) (hH : CanH c0 g n) (h : CF S S2 y ∧ CR S2 y dE (iF (iF g 1100 0) 1111 p0) c0) : WP S S2 y dE ob (mLength g p0) n ∧ 0 = (mLength g p0).2.2 1100 := by
  rw [mLength, if_pos z]
  exact ⟨WP.cf h.1 h7 ho hon h.2 (hCB.same rfl rfl) (hH.same rfl rfl), rfl⟩
theorem wp_weight {gt kk : Nat} {p0 p1 p2 : Int32} (z : (0 ≤ p0 ∧ p0 ≤ 5) ∧ (0 ≤ p1 ∧ p1 ≤ 7) ∧ (1 ≤ p2 ∧ p2 ≤ 100)) (e : p0 = nI gt) (e1 : p1 = nI kk) (hg : gt < 6) (hk : kk < 8) (h7 : IsAt S 13 (y 7)) (ho : IsAt S 14 ob) (hon : aN S ob = 1) (hCB : CanB c0 g n) (hH : CanH c0 g n) (h : CF S S2 y ∧ CR S2 y dE (iI (iF g 1100 0) 19 (8 * gt + kk) p2) c0) : WP S S2 y dE ob (mWeight g p0 p1 p2) n ∧ 0 = (mWeight g p0 p1 p2).2.2 1100 := by
  rw [mWeight, if_pos z, e, e1, nI_clamp (by omega), nI_clamp (by omega)]
  exact ⟨WP.cf h.1 h7 ho hon h.2 (hCB.same rfl rfl) (hH.same rfl rfl), rfl⟩
theorem wp_speed {i : Nat} {p0 p1 : Int32} (z : ((-1) ≤ p0 ∧ p0 ≤ 5) ∧ (999 ≤ p1 ∧ p1 ≤ 1001)) (e : (if p0 < 0 then 6 else p0.toNatClampNeg) = i) (h7 : IsAt S 13 (y 7)) (ho : IsAt S 14 ob) (hon : aN S ob = 1) (hCB : CanB c0 g n) (hH : CanH c0 g n) (h : CF S S2 y ∧ CR S2 y dE (iI (iF g 1100 0) 2 i p1) c0) : WP S S2 y dE ob (mSpeed g p0 p1) n ∧ 0 = (mSpeed g p0 p1).2.2 1100 := by
  rw [mSpeed, if_pos z, e]
  exact ⟨WP.cf h.1 h7 ho hon h.2 (hCB.same rfl rfl) (hH.same rfl rfl), rfl⟩
theorem wp_take {gt kk : Nat} {p0 p1 p2 : Int32} (z : ((0 ≤ p0 ∧ p0 ≤ 5) ∧ (0 ≤ p1 ∧ p1 ≤ 7)) ∧ (1 ≤ p2 ∧ p2 ≤ 10000)) (e : p0 = nI gt) (e1 : p1 = nI kk) (hg : gt < 6) (hk : kk < 8) (h7 : IsAt S 13 (y 7)) (ho : IsAt S 14 ob) (hon : aN S ob = 1) (hCB : CanB c0 g n) (hH : CanH c0 g n) (hG : GInv g n f c d) {c2 : CS} (h1 : CF S S2 y) (h2 : CR S2 y dE (mTkOk (iF g 1100 0) n gt kk p2).1 c2) (h3 : CsD c0 c2 (8 * gt + kk) (hs (mTkOk (iF g 1100 0) n gt kk p2).1 gt kk n)) : WP S S2 y dE ob (mTake g n p0 p1 p2).1 n ∧ 0 = (mTake g n p0 p1 p2).1.2.2 1100 ∧ (mTkOk (iF g 1100 0) n gt kk p2).2 = (mTake g n p0 p1 p2).2 := by
  have q := tkOk_27 (g := iF g 1100 0) (n := n) (kk := kk) (x := p2) hG.a.n3 hg (hG.f0.c.hok kk hg) ⟨leI z.2.1, leI z.2.2⟩
  rw [mTake, if_pos z, e, e1, nI_clamp (by omega), nI_clamp (by omega)]
  have hH0 : CanH c0 (iF g 1100 0) n := hH.same rfl rfl
  refine ⟨WP.cf h1 h7 ho hon h2 ((hCB.f0.same q.1 q.2.1).lists h3.2.2.1 h3.2.2.2) (hH0.desk hk h3 (fun i k hi hk2 he => hs_away hG.a.n3 hg hk hi hk2 he q.1 q.2.2.2)), ?_, rfl⟩
  rw [q.2.2.1]; rfl
theorem wp_work {gt : Nat} {p0 : Int32} (z : 0 ≤ p0 ∧ p0 ≤ 5) (e : p0 = nI gt) (hg : gt < 6) (h7 : IsAt S 13 (y 7)) (ho : IsAt S 14 ob) (hon : aN S ob = 1) (hCB : CanB c0 g n) {c2 : CS} (h1 : CF S S2 y) (h2 : CR S2 y dE (mWorkN (iF g 1100 0) gt n 8).1 c2) (h3 : CanH c2 (mWorkN (iF g 1100 0) gt n 8).1 n) (h4 : cQl c2 = cQl c0) (h5 : cE c2 = cE c0) : WP S S2 y dE ob (mWork g n p0).1 n ∧ 0 = (mWork g n p0).1.2.2 1100 ∧ (mWorkN (iF g 1100 0) gt n 8).2 = (mWork g n p0).2 := by
  rw [mWork, if_pos z, e, nI_clamp (by omega)]
  refine ⟨WP.cf h1 h7 ho hon h2 ((hCB.f0.same (mWorkN_j _ _ _ (by omega) 8) (mWorkN_j _ _ _ (by omega) 8)).lists h4 h5) h3, ?_, rfl⟩
  rw [mWorkN_f]; rfl
theorem mRsG_2 (g : MS) (n gt : Nat) : (mRsG g n gt).2 = g.2 ∧ (mRsG g n gt).1 8 = g.1 8 ∧ (mRsG g n gt).1 9 = g.1 9 := by
  unfold mRsG
  obtain ⟨a1, a2, -⟩ := mRs1_1 (iI g 20 gt (g.1 20 gt + 1)) gt n
  obtain ⟨b1, b2, -⟩ := mRs2_1 (mRs1 (iI g 20 gt (g.1 20 gt + 1)) gt n) gt 8
  exact ⟨b2.trans a2, (b1 8 (by omega)).trans (a1 8 (by omega)), (b1 9 (by omega)).trans (a1 9 (by omega))⟩
theorem wp_restart {gt : Nat} {p0 : Int32} (z : 0 ≤ p0 ∧ p0 ≤ 5) (e : p0 = nI gt) (hg : gt < 6) (h7 : IsAt S 13 (y 7)) (ho : IsAt S 14 ob) (hon : aN S ob = 1) (hCB : CanB c0 g n) {c2 : CS} (h1 : CF S S2 y) (h2 : CR S2 y dE (mRsG (iF g 1100 0) n gt) c2) (h3 : CanH c2 (mRsG (iF g 1100 0) n gt) n) (h4 : cQl c2 = cQl c0) (h5 : cE c2 = cE c0) : WP S S2 y dE ob (mRestart g n p0).1 n ∧ 0 = (mRestart g n p0).1.2.2 1100 ∧ (mRsG (iF g 1100 0) n gt).1 20 gt = (mRestart g n p0).2 := by
  obtain ⟨q1, q2, q3⟩ := mRsG_2 (iF g 1100 0) n gt
  rw [mRestart, if_pos z, e, nI_clamp (by omega)]
  refine ⟨WP.cf h1 h7 ho hon h2 ((hCB.f0.same q2 q3).lists h4 h5) h3, ?_, rfl⟩
  rw [q1]; rfl
theorem wp_drop {q : Nat} {p0 : Int32} (z : mIsMsg g p0) (e : p0 = nI q) (hm : MsgOk g) (hq : q < mqN g) (h7 : IsAt S 13 (y 7)) (ho : IsAt S 14 ob) (hon : aN S ob = 1) (hCB : CanB c0 g n) (hH : CanH c0 g n) (h : CF S S2 y ∧ CR S2 y dE (iI (iF g 1100 0) 33 q 0) c0) : WP S S2 y dE ob (mDrop g p0) n ∧ 0 = (mDrop g p0).2.2 1100 := by
  have := hm.2
  rw [mDrop, if_pos z, e, nI_clamp (by omega)]
  exact ⟨WP.cf h.1 h7 ho hon h.2 (hCB.same rfl rfl) (hH.same rfl rfl), rfl⟩
/-- the premises of a tick -/
theorem tick_pre {x : Int32} (hG : GInv g n f c d) (hc : c < 512) (h1 : 1 ≤ x ∧ x ≤ 5000) : (0 ≤ (mClk g 6).toInt ∧ (mClk g 6).toInt ≤ (mClk (iL g 1 6 (g.2.1 1 6 + x.toInt64 * (g.1 2 6).toInt64)) 6).toInt) ∧ ∀ k, k < 8 → ∀ h, h ∈ lsB g k n → (mClk g 6).toInt < (g.1 10 h).toInt := by
  obtain ⟨t0, t1, t2, t3⟩ := tick_to hG.a hc (leI h1.1) (leI h1.2)
  rw [← t0]
  exact ⟨⟨t2, t1⟩, fun k hk h hh => hG.a.lv.2 h (mem_fil.mp hh).1 (mem_fil.mp hh).2.2⟩
theorem wp_tick {p0 : Int32} (z : 1 ≤ p0 ∧ p0 ≤ 5000) (h7 : IsAt S 13 (y 7)) (ho : IsAt S 14 ob) (hon : aN S ob = 1) (hH : CanH c0 g n) (hG : GInv g n f c d) (hc : c < 512) {c2 : CS} (h1 : CF S S2 y) (h2 : CR S2 y dE (mGone (kPs (iL (iF g 1100 0) 1 6 ((iF g 1100 0).2.1 1 6 + p0.toInt64 * ((iF g 1100 0).1 2 6).toInt64)) n (mClk (iF g 1100 0) 6) (mClk (iL (iF g 1100 0) 1 6 ((iF g 1100 0).2.1 1 6 + p0.toInt64 * ((iF g 1100 0).1 2 6).toInt64)) 6) 8) p0 6) c2) (h3 : CanB c2 (kPs (iL (iF g 1100 0) 1 6 ((iF g 1100 0).2.1 1 6 + p0.toInt64 * ((iF g 1100 0).1 2 6).toInt64)) n (mClk (iF g 1100 0) 6) (mClk (iL (iF g 1100 0) 1 6 ((iF g 1100 0).2.1 1 6 + p0.toInt64 * ((iF g 1100 0).1 2 6).toInt64)) 6) 8) n) (h4 : cP c2 = cP c0) : WP S S2 y dE ob (mTick g n p0) n ∧ 0 = (mTick g n p0).2.2 1100 := by
  have hG0 := hG.f0 (v := 0)
  obtain ⟨t0, t1, t2, t3⟩ := tick_to hG0.a hc (leI z.1) (leI z.2)
  have hky : ∀ h, h < n → ∃ k, k < 8 ∧ (iF g 1100 0).1 8 h = nI k := fun h hh => by
    obtain ⟨-, gt, kk, -, e1, e2, -⟩ := hG0.b.lo h hh
    exact ⟨kk, e1, e2⟩
  have same := tick_same (g := iF g 1100 0) (n := n) (x := p0) hG0.a.n3 hG0.a.bi hG0.a.lv hky t2 t1 t3
  have em : mTick g n p0 = mRoot (mGone (iF g 1100 0) p0 7) n (mClk (iF g 1100 0) 6) (mClk (mGone (iF g 1100 0) p0 7) 6) := by rw [mTick, if_pos z]; rfl
  rw [← t0] at h2 h3
  rw [em, ← same]
  obtain ⟨j1, j2, j3, -⟩ := kPs_j (iL (iF g 1100 0) 1 6 ((iF g 1100 0).2.1 1 6 + p0.toInt64 * ((iF g 1100 0).1 2 6).toInt64)) n (mClk (iF g 1100 0) 6) (mClk (mGone (iF g 1100 0) p0 7) 6) 8
  generalize kPs (iL (iF g 1100 0) 1 6 ((iF g 1100 0).2.1 1 6 + p0.toInt64 * ((iF g 1100 0).1 2 6).toInt64)) n (mClk (iF g 1100 0) 6) (mClk (mGone (iF g 1100 0) p0 7) 6) 8 = q at *
  obtain ⟨m1, m2, m3, -⟩ := mGone_1 q p0 6
  refine ⟨WP.cf h1 h7 ho hon h2 (h3.same (by rw [m1]) (by rw [m1])) ((hH.lists h4).same ((by rw [m1]; exact j1 8 (by decide))) (by rw [m1]; exact j1 27 (by decide))), ?_⟩
  rw [m3, j3]; rfl
theorem wp_ask {q gt kk h : Nat} {p0 : Int32} (z : mIsMsg g p0) (e : p0 = nI q) (hm : MsgOk g) (hG : GInv g n f c d) (F : CvF g n f q gt kk h) (k0 : g.1 32 (8 * q) = 0) (h7 : IsAt S 13 (y 7)) (ho : IsAt S 14 ob) (hon : aN S ob = 1) (hH : CanH c0 g n) (ht : 0 < (g.1 32 (8 * q + 3)).toInt) {c2 : CS} (h1 : CF S S2 y) (h2 : CR S2 y dE (mAsks (iF g 1100 0) n gt kk (g.1 32 (8 * q + 3)) (g.1 32 (8 * q + 4)) (g.1 32 (8 * q + 5))).1 c2) (h3 : CanB c2 (mAsks (iF g 1100 0) n gt kk (g.1 32 (8 * q + 3)) (g.1 32 (8 * q + 4)) (g.1 32 (8 * q + 5))).1 (mN (iF g 1100 0) n gt kk (g.1 32 (8 * q + 3)) (g.1 32 (8 * q + 4)) (g.1 32 (8 * q + 5)))) (h4 : cP c2 = cP c0) : WP S S2 y dE ob (mCarry g n p0 gt kk h).1 (mNc (iF g 1100 0) n q gt kk) ∧ 0 = (mCarry g n p0 gt kk h).1.2.2 1100 ∧ (mAsks (iF g 1100 0) n gt kk (g.1 32 (8 * q + 3)) (g.1 32 (8 * q + 4)) (g.1 32 (8 * q + 5))).2 = (mCarry g n p0 gt kk h).2 := by
  have hq := F.1.2.2.1
  have hm2 := hm.2
  have hG0 := hG.f0 (v := 0)
  have em : mCarry g n p0 gt kk h = mAsks (iF g 1100 0) n gt kk (g.1 32 (8 * q + 3)) (g.1 32 (8 * q + 4)) (g.1 32 (8 * q + 5)) := by
    rw [mCarry, if_pos z, e, nI_clamp (by omega), mCarryQ, if_pos (show (iF g 1100 0).1 32 (8 * q) = 0 from k0)]; rfl
  have en : mNc (iF g 1100 0) n q gt kk = mN (iF g 1100 0) n gt kk (g.1 32 (8 * q + 3)) (g.1 32 (8 * q + 4)) (g.1 32 (8 * q + 5)) := if_pos k0
  have H2 := hG0.hear (b := g.1 32 (8 * q + 4)) F.1.1
  have gr := (gets_range H2.a.wo H2.a.bi F.1.1 F.1.2.1 ht).1
  rw [em, en]
  have hz : (iF g 1100 0).1 27 n = 0 := Decidable.byContradiction (fun u => absurd (hG0.c.ho n u).1 (Nat.lt_irrefl _))
  have hH0 : CanH c0 (iF g 1100 0) n := hH.same rfl rfl
  refine ⟨WP.cf h1 h7 ho hon h2 h3 (asks_canH hH0 hz h4 gr), ?_, rfl⟩
  rw [(asks_27 gr).2.2]; rfl
theorem wp_grant {q gt kk h : Nat} {p0 : Int32} (z : mIsMsg g p0) (e : p0 = nI q) (hm : MsgOk g) (hG : GInv g n f c d) (F : CvF g n f q gt kk h) (k1 : g.1 32 (8 * q) = 1) (h7 : IsAt S 13 (y 7)) (ho : IsAt S 14 ob) (hon : aN S ob = 1) (hCB : CanB c0 g n) (hH : CanH c0 g n) {c2 : CS} (h1 : CF S S2 y) (h2 : CR S2 y dE (kHear (iF g 1100 0) gt kk h (g.1 32 (8 * q + 4)) (g.1 32 (8 * q + 3)) (g.1 32 (8 * q + 5)) (g.1 32 (8 * q + 7))).1 c2) (h3 : CsD c0 c2 (8 * gt + kk) (kHearL (iF g 1100 0) gt kk h (g.1 32 (8 * q + 4)) (g.1 32 (8 * q + 3)) (g.1 32 (8 * q + 5)) (cP c0 (8 * gt + kk)))) : WP S S2 y dE ob (mCarry g n p0 gt kk h).1 (mNc (iF g 1100 0) n q gt kk) ∧ 0 = (mCarry g n p0 gt kk h).1.2.2 1100 ∧ (kHear (iF g 1100 0) gt kk h (g.1 32 (8 * q + 4)) (g.1 32 (8 * q + 3)) (g.1 32 (8 * q + 5)) (g.1 32 (8 * q + 7))).2 = (mCarry g n p0 gt kk h).2 := by
  have hq := F.1.2.2.1
  have hm2 := hm.2
  have n0 : ¬ (iF g 1100 0).1 32 (8 * q) = 0 := by rw [show (iF g 1100 0).1 32 (8 * q) = 1 from k1]; decide
  have em : mCarry g n p0 gt kk h = mArr (iF g 1100 0) q gt kk h := by
    rw [mCarry, if_pos z, e, nI_clamp (by omega), mCarryQ, if_neg n0, if_pos (show (iF g 1100 0).1 32 (8 * q) = 1 from k1)]
  have en : mNc (iF g 1100 0) n q gt kk = n := if_neg n0
  have ek := mArr_kHear (iF g 1100 0) q gt kk h
  have hH0 : CanH c0 (iF g 1100 0) n := hH.same rfl rfl
  have cH := arr_canH (hG.f0 (v := 0)) F.f0 k1 hH0 h3
  rw [em, en]
  have e8 : (mArr (iF g 1100 0) q gt kk h).1.1 8 = g.1 8 ∧ (mArr (iF g 1100 0) q gt kk h).1.1 9 = g.1 9 ∧ (mArr (iF g 1100 0) q gt kk h).1.2.2 1100 = 0 := by
    unfold mArr mArrH
    split
    · split
      · exact ⟨rfl, rfl, rfl⟩
      · exact ⟨rfl, rfl, rfl⟩
    · exact ⟨rfl, rfl, rfl⟩
  refine ⟨WP.cf h1 h7 ho hon ?_ ((hCB.same e8.1 e8.2.1).lists h3.2.2.1 h3.2.2.2) cH, e8.2.2.symm, by rw [ek]; rfl⟩
  rw [ek]; exact h2
theorem wp_ret {q gt kk h : Nat} {p0 : Int32} (z : mIsMsg g p0) (e : p0 = nI q) (hm : MsgOk g) (F : CvF g n f q gt kk h) (k2 : g.1 32 (8 * q) = 2) (h7 : IsAt S 13 (y 7)) (ho : IsAt S 14 ob) (hon : aN S ob = 1) (hH : CanH c0 g n) {c2 : CS} (h1 : CF S S2 y) (h2 : CR S2 y dE (mRet (iF g 1100 0) n gt (g.1 32 (8 * q + 3)) (g.1 32 (8 * q + 4)) h kk).1 c2) (h3 : CanB c2 (mRet (iF g 1100 0) n gt (g.1 32 (8 * q + 3)) (g.1 32 (8 * q + 4)) h kk).1 n) (h4 : cP c2 = cP c0) : WP S S2 y dE ob (mCarry g n p0 gt kk h).1 (mNc (iF g 1100 0) n q gt kk) ∧ 0 = (mCarry g n p0 gt kk h).1.2.2 1100 ∧ (mRet (iF g 1100 0) n gt (g.1 32 (8 * q + 3)) (g.1 32 (8 * q + 4)) h kk).2 = (mCarry g n p0 gt kk h).2 := by
  have hq := F.1.2.2.1
  have hm2 := hm.2
  have n0 : ¬ (iF g 1100 0).1 32 (8 * q) = 0 := by rw [show (iF g 1100 0).1 32 (8 * q) = 2 from k2]; decide
  have n1 : ¬ (iF g 1100 0).1 32 (8 * q) = 1 := by rw [show (iF g 1100 0).1 32 (8 * q) = 2 from k2]; decide
  have em : mCarry g n p0 gt kk h = mRet (iF g 1100 0) n gt (g.1 32 (8 * q + 3)) (g.1 32 (8 * q + 4)) h kk := by
    rw [mCarry, if_pos z, e, nI_clamp (by omega), mCarryQ, if_neg n0, if_neg n1]; rfl
  have en : mNc (iF g 1100 0) n q gt kk = n := if_neg n0
  rw [em, en]
  have e8 : (mRet (iF g 1100 0) n gt (g.1 32 (8 * q + 3)) (g.1 32 (8 * q + 4)) h kk).1.1 8 = g.1 8 ∧ (mRet (iF g 1100 0) n gt (g.1 32 (8 * q + 3)) (g.1 32 (8 * q + 4)) h kk).1.1 27 = g.1 27 ∧ (mRet (iF g 1100 0) n gt (g.1 32 (8 * q + 3)) (g.1 32 (8 * q + 4)) h kk).1.2.2 1100 = 0 := by
    unfold mRet
    split
    · exact ⟨rfl, rfl, rfl⟩
    · exact ⟨rfl, rfl, rfl⟩
  exact ⟨WP.cf h1 h7 ho hon h2 h3 ((hH.lists h4).same e8.1 e8.2.1), e8.2.2.symm, rfl⟩
theorem wp_q {G : MS} (e : G = iF g 1100 0) (hon : aN S ob = 1) (hC : CR S y dE g c0) (hCB : CanB c0 g n) (hH : CanH c0 g n) : WP S S y dE ob G n ∧ 0 = G.2.2 1100 := by
  subst e
  exact ⟨WP.rf hon hC.f0 hCB.f0 (hH.same rfl rfl), rfl⟩
theorem wp_x {G : MS} (e : G = iF g 1100 1) (hon : aN S ob = 1) (hC : CR S y dE g c0) (hCB : CanB c0 g n) (hH : CanH c0 g n) : WP S S y dE ob G n ∧ 1 = G.2.2 1100 := by
  subst e
  exact ⟨WP.rf hon hC.f0 (hCB.same rfl rfl) (hH.same rfl rfl), rfl⟩
theorem neg1 {p : Int32} (h : (-1) ≤ p) (h2 : p < 0) : p = -1 := by
  refine Int32.toInt_inj.mp ?_
  rw [Int32.le_iff_toInt_le] at h
  rw [Int32.lt_iff_toInt_lt] at h2
  have e0 : (0 : Int32).toInt = 0 := rfl
  have e1 : (-1 : Int32).toInt = -1 := by decide
  omega
theorem mTkZ (g : MS) (n gt kk : Nat) (x : Int32) : (mTkOk g n gt kk x).2 = 0 ∨ (mTkOk g n gt kk x).2 = 1 := by
  unfold mTkOk
  split
  · exact Or.inl rfl
  · exact Or.inr rfl
theorem msg_w {q w9 : Nat} (h : w9 < 7) : (if w9 = 0 then g.1 32 (8 * q) else if w9 = 1 then g.1 32 (8 * q + 1) else if w9 = 2 then g.1 32 (8 * q + 2) else if w9 = 3 then g.1 32 (8 * q + 3) else if w9 = 4 then g.1 32 (8 * q + 4) else if w9 = 5 then g.1 32 (8 * q + 5) else g.1 32 (8 * q + 6)) = g.1 32 (8 * q + w9) := by
  rcases (show w9 = 0 ∨ w9 = 1 ∨ w9 = 2 ∨ w9 = 3 ∨ w9 = 4 ∨ w9 = 5 ∨ w9 = 6 by omega) with e | e | e | e | e | e | e <;> subst e <;> rfl
def mCn (g : MS) (n : Nat) (p0 : Int32) (gt kk : Nat) : Nat := if mIsMsg g p0 then mNc (iF g 1100 0) n p0.toNatClampNeg gt kk else n
theorem cn_y {q gt kk : Nat} (z : mIsMsg g (nI q)) (hq : q < 2 ^ 31) : mNc (iF g 1100 0) n q gt kk = mCn g n (nI q) gt kk := by
  unfold mCn; rw [if_pos z, nI_clamp hq]
theorem cn_x {p0 : Int32} {gt kk : Nat} {G : MS} (z : ¬ mIsMsg g p0) (h : WP S S2 y dE ob G n) : WP S S2 y dE ob G (mCn g n p0 gt kk) := by
  unfold mCn; rw [if_neg z]; exact h
theorem grant_len {gt kk : Nat} (hG : GInv g n f c d) (hH : CanH c0 g n) (hg : gt < 6) (hk : kk < 8) : (cP c0 (8 * gt + kk)).length < 400 := by
  rw [hH gt kk hg hk]
  have := fil_len (mHold g gt kk) n
  have := hG.a.n3
  show (fil (mHold g gt kk) n).length < 400
  omega
theorem grant_num {q gt kk h : Nat} (hG : GInv g n f c d) (hH : CanH c0 g n) (F : CvF g n f q gt kk h) (k1 : g.1 32 (8 * q) = 1) : 0 < g.1 32 (8 * q + 3) → g.1 32 (8 * q + 4) = g.1 20 gt → ¬ g.1 24 (8 * gt + kk) = 0 → g.1 32 (8 * q + 5) = g.1 23 (8 * gt + kk) → h < 300 ∧ g.1 32 (8 * q + 6) = nI h ∧ ∀ j, j < 48 → h ∉ cP c0 j := by
  intro p1 p2 p3 p4
  obtain ⟨⟨a1, a2, a3, a4, a5⟩, z⟩ := F
  rcases z with z | ⟨z1, z2, z3, z4⟩ | z
  · rw [z.1] at k1; exact absurd k1 (by decide)
  · rw [Int32.lt_iff_toInt_lt] at p1
    obtain ⟨h1, h2, h3⟩ := z4 p1
    rw [p2, p4] at h3
    obtain ⟨f1, -⟩ := hG.fresh a1 a2 h1 h3 p3
    have := hG.a.n3
    refine ⟨by omega, h2, fun j hj hm => ?_⟩
    rw [show j = 8 * (j / 8) + j % 8 by omega, hH (j / 8) (j % 8) (by omega) (by omega)] at hm
    have := (mem_fil.mp hm).2.1
    rw [f1] at this
    exact nI_ne0 (by omega) (by omega) this.symm
  · rw [z.1] at k1; exact absurd k1 (by decide)
end WSPEC
