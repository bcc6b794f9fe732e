/-! a message is carried -/
/-- what is known of the message in place q -/
def CvF (g : MS) (n : Nat) (f : Nat → Nat) (q gt kk h : Nat) : Prop := (gt < 6 ∧ kk < 8 ∧ q < mqN g ∧ g.1 32 (8 * q + 1) = nI gt ∧ g.1 32 (8 * q + 2) = nI kk) ∧
  ((g.1 32 (8 * q) = 0 ∧ 0 < (g.1 32 (8 * q + 3)).toInt ∧ 0 ≤ (g.1 32 (8 * q + 5)).toInt) ∨
   (g.1 32 (8 * q) = 1 ∧ (0 ≤ (g.1 32 (8 * q + 3)).toInt ∧ (g.1 32 (8 * q + 3)).toInt ≤ 1000000) ∧ (0 ≤ (g.1 32 (8 * q + 7)).toInt ∧ (g.1 32 (8 * q + 7)).toInt ≤ 9000) ∧ (0 < (g.1 32 (8 * q + 3)).toInt → h < n ∧ g.1 32 (8 * q + 6) = nI h ∧ Lo g f h gt kk (g.1 32 (8 * q + 4)) (g.1 32 (8 * q + 5)))) ∨
   (g.1 32 (8 * q) = 2 ∧ 0 ≤ (g.1 32 (8 * q + 3)).toInt ∧ h < n ∧ g.1 32 (8 * q + 6) = nI h ∧ g.1 8 h = nI kk))
theorem cv_ex {g : MS} {n c d q : Nat} {f : Nat → Nat} (H : GInv g n f c d) (hq : q < mqN g) : ∃ gt kk h, CvF g n f q gt kk h := by
  obtain ⟨gt, kk, a1, a2, a3, a4, z⟩ := H.b.ms q hq
  rcases z with z | ⟨z1, z2, z3, z4⟩ | ⟨z1, z2, h, z3, z4, z5⟩
  · exact ⟨gt, kk, 0, ⟨a1, a2, hq, a3, a4⟩, Or.inl z⟩
  · by_cases p : 0 < (g.1 32 (8 * q + 3)).toInt
    · obtain ⟨h, h1, h2, h3⟩ := z4 p
      exact ⟨gt, kk, h, ⟨a1, a2, hq, a3, a4⟩, Or.inr (Or.inl ⟨z1, z2, z3, fun _ => ⟨h1, h2, h3⟩⟩)⟩
    · exact ⟨gt, kk, 0, ⟨a1, a2, hq, a3, a4⟩, Or.inr (Or.inl ⟨z1, z2, z3, fun u => absurd u p⟩)⟩
  · exact ⟨gt, kk, h, ⟨a1, a2, hq, a3, a4⟩, Or.inr (Or.inr ⟨z1, z2, z3, z4, z5⟩)⟩
theorem CvF.v {g : MS} {n q gt kk h : Nat} {f : Nat → Nat} (H : CvF g n f q gt kk h) (hn : n ≤ 300) : MsgV g n q gt kk h := by
  obtain ⟨⟨a1, a2, a3, a4, a5⟩, z⟩ := H
  refine ⟨a1, a2, a4, a5, fun k1 kp => ?_, fun k0 k1 => ?_⟩
  · rcases z with z | z | z
    · rw [z.1] at k1; exact absurd k1 (by decide)
    · rw [Int32.lt_iff_toInt_lt] at kp
      have := z.2.2.2 kp
      exact ⟨by omega, this.2.1⟩
    · rw [z.1] at k1; exact absurd k1 (by decide)
  · rcases z with z | z | z
    · exact absurd z.1 k0
    · exact absurd z.1 k1
    · exact ⟨by omega, z.2.2.2.1, z.2.2.2.2⟩
theorem CvF.w {g : MS} {n q gt kk h : Nat} {f : Nat → Nat} (H : CvF g n f q gt kk h) : MsW g q gt kk (g.1 32 (8 * q + 3)) (g.1 32 (8 * q + 4)) (g.1 32 (8 * q + 5)) := ⟨H.1.2.2.1, H.1.2.2.2.1, H.1.2.2.2.2, rfl, rfl, rfl⟩
theorem CvF.f0 {g : MS} {n q gt kk h : Nat} {f : Nat → Nat} {v : Int32} (H : CvF g n f q gt kk h) : CvF (iF g 1100 v) n f q gt kk h := H
/-- how many loans there are behind it -/
def mNc (g : MS) (n q gt kk : Nat) : Nat := if g.1 32 (8 * q) = 0 then mN g n gt kk (g.1 32 (8 * q + 3)) (g.1 32 (8 * q + 4)) (g.1 32 (8 * q + 5)) else n
theorem mArr_kHear (g : MS) (q gt kk h : Nat) : mArr g q gt kk h = kHear g gt kk h (g.1 32 (8 * q + 4)) (g.1 32 (8 * q + 3)) (g.1 32 (8 * q + 5)) (g.1 32 (8 * q + 7)) := by
  unfold mArr kHear kAcc mArrH
  by_cases a : g.1 32 (8 * q + 4) = g.1 20 gt
  · rw [if_pos a]
    by_cases b : ¬ g.1 24 (8 * gt + kk) = 0 ∧ g.1 32 (8 * q + 5) = g.1 23 (8 * gt + kk)
    · rw [if_pos ⟨a, b⟩, if_pos b]
    · rw [if_neg (fun u => b u.2), if_neg b]
  · rw [if_neg (fun u => a u.1), if_neg a]
theorem GInv.arr {g : MS} {n c d q gt kk h : Nat} {f : Nat → Nat} (H : GInv g n f c d) (F : CvF g n f q gt kk h) (k1 : g.1 32 (8 * q) = 1) : GInv (mArr g q gt kk h).1 n f c d := by
  obtain ⟨⟨a1, a2, a3, a4, a5⟩, z⟩ := F
  rcases z with z | ⟨z1, z2, z3, z4⟩ | z
  · rw [z.1] at k1; exact absurd k1 (by decide)
  · unfold mArr
    split
    · rename_i w
      split
      · rename_i p
        rw [Int32.lt_iff_toInt_lt] at p
        have e0 : (0 : Int32).toInt = 0 := rfl
        obtain ⟨h1, h2, h3⟩ := z4 p
        rw [w.1, w.2.2] at h3
        exact H.arrH a1 a2 h1 h3 ⟨by omega, z2.2⟩ z3
      · exact H.closeAsk
    · exact H
  · rw [z.1] at k1; exact absurd k1 (by decide)
/-- the grant that is taken has no hold yet, and its number is above all holds of that key -/
theorem GInv.fresh {g : MS} {n c d gt kk h : Nat} {f : Nat → Nat} (H : GInv g n f c d) (hg : gt < 6) (hk : kk < 8) (hh : h < n) (hL : Lo g f h gt kk (g.1 20 gt) (g.1 23 (8 * gt + kk))) (ho : ¬ g.1 24 (8 * gt + kk) = 0) : g.1 27 h = 0 ∧ ∀ x, x < n → mHold g gt kk x → x < h := by
  refine ⟨Decidable.byContradiction (fun z => ?_), fun x hx hx2 => ?_⟩
  · obtain ⟨-, g2, k2, b1, b2, b3, ⟨c9, c1, c2, c3⟩, -⟩ := H.c.ho h z
    have eg : g2 = gt := nI_ij (c1.2.1.symm.trans hL.2.1) (by omega) (by omega)
    have ek : k2 = kk := nI_ij (c1.1.symm.trans hL.1) (by omega) (by omega)
    subst eg; subst ek
    have ec : c9 = g.1 23 (8 * g2 + k2) := c1.2.2.2.symm.trans hL.2.2.2
    have := c3 ho
    rw [ec] at this
    omega
  · obtain ⟨-, g2, k2, b1, b2, b3, ⟨c9, c1, c2, c3⟩, -⟩ := H.c.hold hg hx2
    have eg : g2 = gt := by
      have := nI_ij (b3.symm.trans hx2.1) (by omega) (by omega)
      omega
    have ek : k2 = kk := nI_ij (c1.1.symm.trans hx2.2) (by omega) (by omega)
    subst eg; subst ek
    have lt := c3 ho
    have ex : x ≠ h := fun e => by
      subst e
      have := c1.2.2.2.symm.trans hL.2.2.2
      rw [this] at lt; omega
    by_cases w : x < h
    · exact w
    · have := H.b.g3 h x (by omega) hx (hL.2.1.trans c1.2.1.symm) (hL.1.trans c1.1.symm) (hL.2.2.1.trans c1.2.2.1.symm)
      rw [c1.2.2.2, hL.2.2.2] at this
      omega
theorem hs_arr {g : MS} {n gt kk h : Nat} {q : MS} (hh : h < n) (hg : gt < 6) (hk : kk < 8) (h8 : q.1 8 = g.1 8) (hkey : g.1 8 h = nI kk) (h27 : ∀ x, q.1 27 x = if x = h then nI (gt + 1) else g.1 27 x) (hz : g.1 27 h = 0) (hlt : ∀ x, x < n → mHold g gt kk x → x < h) : hs q gt kk n = hs g gt kk n ++ [h] ∧ ∀ i k, i < 6 → k < 8 → ¬ (i = gt ∧ k = kk) → hs q i k n = hs g i k n := by
  refine ⟨fil_add n (fun x hx => ?_) hlt hh, fun i k hi hk2 he => fil_congr (fun x hx => ?_)⟩
  · unfold mHold
    rw [h8, h27]
    by_cases e : x = h
    · subst e; rw [if_pos rfl]; exact ⟨fun _ => Or.inr rfl, fun _ => ⟨rfl, hkey⟩⟩
    · rw [if_neg e]; exact ⟨fun u => Or.inl u, fun u => u.elim id (fun v => absurd v e)⟩
  · unfold mHold
    rw [h8, h27]
    by_cases e : x = h
    · subst e
      rw [if_pos rfl, hz]
      refine ⟨fun u => absurd ?_ he, fun u => absurd u.1.symm (nI_ne0 (by omega) (by omega))⟩
      have a := nI_ij u.1 (by omega) (by omega)
      have b := nI_ij (hkey.symm.trans u.2) (by omega) (by omega)
      omega
    · rw [if_neg e]
/-- behind a grant: the lists are those of the new state -/
theorem arr_canH {c0 c2 : CS} {g : MS} {n c d q gt kk h : Nat} {f : Nat → Nat} (H : GInv g n f c d) (F : CvF g n f q gt kk h) (k1 : g.1 32 (8 * q) = 1) (hH : CanH c0 g n) (hD : CsD c0 c2 (8 * gt + kk) (kHearL g gt kk h (g.1 32 (8 * q + 4)) (g.1 32 (8 * q + 3)) (g.1 32 (8 * q + 5)) (cP c0 (8 * gt + kk)))) : CanH c2 (mArr g q gt kk h).1 n := by
  obtain ⟨⟨a1, a2, a3, a4, a5⟩, z⟩ := F
  rcases z with z | ⟨z1, z2, z3, z4⟩ | z
  · rw [z.1] at k1; exact absurd k1 (by decide)
  · have hl := hH gt kk a1 a2
    unfold kHearL kAccL at hD
    unfold mArr
    by_cases w : g.1 32 (8 * q + 4) = g.1 20 gt ∧ ¬ g.1 24 (8 * gt + kk) = 0 ∧ g.1 32 (8 * q + 5) = g.1 23 (8 * gt + kk)
    · rw [if_pos w]
      rw [if_pos w.1] at hD
      by_cases p : 0 < g.1 32 (8 * q + 3)
      · rw [if_pos ⟨w.2, p⟩] at hD
        have p2 := p
        rw [Int32.lt_iff_toInt_lt] at p2
        obtain ⟨h1, h2, h3⟩ := z4 p2
        rw [w.1, w.2.2] at h3
        obtain ⟨f1, f2⟩ := H.fresh a1 a2 h1 h3 w.2.1
        show CanH c2 (if 0 < g.1 32 (8 * q + 3) then mArrH g q gt kk h else iI g 24 (8 * gt + kk) 0) n
        rw [if_pos p]
        obtain ⟨s1, s2⟩ := hs_arr (g := g) (q := mArrH g q gt kk h) h1 a1 a2 rfl h3.1 (fun x => rfl) f1 f2
        refine hH.desk a2 (g2 := mArrH g q gt kk h) ?_ s2
        rw [s1, ← hl]; exact hD
      · rw [if_neg (fun u => p u.2)] at hD
        show CanH c2 (if 0 < g.1 32 (8 * q + 3) then mArrH g q gt kk h else iI g 24 (8 * gt + kk) 0) n
        rw [if_neg p]
        refine CanH.same (g := g) (hH.desk a2 (g2 := g) (by rw [← hl]; exact hD) (fun _ _ _ _ _ => rfl)) rfl rfl
    · rw [if_neg w]
      have e : (if g.1 32 (8 * q + 4) = g.1 20 gt then if (¬ g.1 24 (8 * gt + kk) = 0 ∧ g.1 32 (8 * q + 5) = g.1 23 (8 * gt + kk)) ∧ 0 < g.1 32 (8 * q + 3) then cP c0 (8 * gt + kk) ++ [h] else cP c0 (8 * gt + kk) else cP c0 (8 * gt + kk)) = cP c0 (8 * gt + kk) := by
        by_cases u : g.1 32 (8 * q + 4) = g.1 20 gt
        · rw [if_pos u, if_neg (fun v => w ⟨u, v.1⟩)]
        · rw [if_neg u]
      rw [e] at hD
      exact hH.desk a2 (g2 := g) (by rw [← hl]; exact hD) (fun _ _ _ _ _ => rfl)
  · rw [z.1] at k1; exact absurd k1 (by decide)
/-- an ask leaves the holds as they are -/
theorem kAns_8 {g : MS} {n gt kk : Nat} {gets : Int32} : (kAns g n gt kk gets).1 27 = g.1 27 ∧ (∀ h, h < n → (kAns g n gt kk gets).1 8 h = g.1 8 h) ∧ (kAns g n gt kk gets).2.2 1100 = g.2.2 1100 := by
  unfold kAns
  split
  · exact ⟨rfl, fun h hh => va_up_ne _ _ (by omega), rfl⟩
  · exact ⟨rfl, fun _ _ => rfl, rfl⟩
theorem asks_27 {g : MS} {n gt kk : Nat} {tok birth count : Int32} (hr : 0 ≤ (mGets (mHear g gt birth) gt kk tok).toInt) : (mAsks g n gt kk tok birth count).1.1 27 = g.1 27 ∧ (∀ h, h < n → (mAsks g n gt kk tok birth count).1.1 8 h = g.1 8 h) ∧ (mAsks g n gt kk tok birth count).1.2.2 1100 = g.2.2 1100 := by
  have hq : ∀ q : MS, (mSG q gt kk).1 27 = q.1 27 ∧ (mSG q gt kk).1 8 = q.1 8 ∧ (mSG q gt kk).2.2 1100 = q.2.2 1100 := fun q => by
    rw [mSG_if]
    exact ⟨mPostIf_j _ _ _ _ _ _ _ _ _ (by decide) (by decide), mPostIf_j _ _ _ _ _ _ _ _ _ (by decide) (by decide), mPostIf_f _ _ _ _ _ _ _ _ _ (by decide)⟩
  have e27 : (mHear g gt birth).1 27 = g.1 27 := mHear_j _ _ _ (by decide) (by decide)
  have e8 : (mHear g gt birth).1 8 = g.1 8 := mHear_j _ _ _ (by decide) (by decide)
  have ef : (mHear g gt birth).2.2 1100 = g.2.2 1100 := by rw [mHear_2]
  unfold mAsks
  split
  · exact ⟨rfl, fun _ _ => rfl, rfl⟩
  · unfold mAsk2
    split
    · exact ⟨e27, fun h _ => by rw [e8], ef⟩
    · dsimp only
      obtain ⟨s1, s2, s3⟩ := hq (if (mHear g gt birth).1 13 (8 * gt + kk) < count then mAnswer (mHear g gt birth) n gt kk tok count else mHear g gt birth)
      rw [s1, s2, s3]
      split
      · unfold mAnswer
        rw [answer_same hr]
        generalize mGets (mHear g gt birth) gt kk tok = gets at hr
        obtain ⟨k1, k2, k3⟩ := kAns_8 (g := mHear g gt birth) (n := n) (gt := gt) (kk := kk) (gets := gets)
        generalize kAns (mHear g gt birth) n gt kk gets = q at k1 k2 k3
        refine ⟨?_, fun h hh => ?_, k3.trans ef⟩
        · rw [iI_j (by decide), iI_j (by decide), iI_j (by decide), iI_j (by decide)]; exact k1.trans e27
        · rw [iI_j (by decide), iI_j (by decide), iI_j (by decide), iI_j (by decide)]; exact (k2 h hh).trans (by rw [e8])
      · exact ⟨e27, fun h _ => by rw [e8], ef⟩
theorem mN_le {g : MS} {n gt kk : Nat} {tok birth count : Int32} : mN g n gt kk tok birth count = n ∨ mN g n gt kk tok birth count = n + 1 := by
  unfold mN kN
  split
  · split
    · exact Or.inr rfl
    · exact Or.inl rfl
  · exact Or.inl rfl
theorem asks_canH {c0 c2 : CS} {g : MS} {n gt kk : Nat} {tok birth count : Int32} (hH : CanH c0 g n) (hz : g.1 27 n = 0) (e : cP c2 = cP c0) (hr : 0 ≤ (mGets (mHear g gt birth) gt kk tok).toInt) : CanH c2 (mAsks g n gt kk tok birth count).1 (mN g n gt kk tok birth count) := by
  obtain ⟨a1, a2, -⟩ := asks_27 (n := n) (count := count) hr
  intro i k hi hk
  rw [e, hH i k hi hk]
  have e1 : hs (mAsks g n gt kk tok birth count).1 i k n = hs g i k n := fil_congr (fun x hx => by unfold mHold; rw [a1, a2 x hx])
  rcases mN_le (g := g) (n := n) (gt := gt) (kk := kk) (tok := tok) (birth := birth) (count := count) with u | u
  · rw [u, e1]
  · rw [u]
    show hs g i k n = fil (mHold (mAsks g n gt kk tok birth count).1 i k) (n + 1)
    rw [fil_succ, if_neg]
    · exact e1.symm
    · intro v
      have := v.1
      rw [a1, hz] at this
      exact nI_ne0 (by omega) (by omega) this.symm
