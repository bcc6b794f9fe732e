/-! what holds of the reference's numbers holds behind each call -/
section NEXT
variable {g : MS} {n c d : Nat} {f : Nat → Nat}
theorem GInv.nx {G : MS} (H : GInv G n f c d) : GInv G n f (c + 1) (d + 8) := H.up (Nat.le_succ c) (Nat.le_add_right d 8)
theorem nx_key {p0 p1 p2 : Int32} (H : GInv g n f c d) : GInv (mKey g n p0 p1 p2) n f (c + 1) (d + 8) := by
  unfold mKey
  split
  · rename_i z
    obtain ⟨k, hk, e⟩ := nI_lim (M := 7) (n := 7) (by decide) z.1
    rw [e, nI_clamp (by omega)]
    exact (H.f0.key (by omega) ⟨leI z.2.1.1, leI z.2.1.2⟩ ⟨leI z.2.2.1, leI z.2.2.2⟩).nx
  · exact H.f0.nx
theorem nx_length {p0 : Int32} (H : GInv g n f c d) : GInv (mLength g p0) n f (c + 1) (d + 8) := by
  unfold mLength
  split
  · rename_i z
    exact (H.f0.len ⟨leI z.1, leI z.2⟩).nx
  · exact H.f0.nx
theorem nx_weight {p0 p1 p2 : Int32} (H : GInv g n f c d) : GInv (mWeight g p0 p1 p2) n f (c + 1) (d + 8) := by
  unfold mWeight
  split
  · rename_i z
    exact (H.f0.weight ⟨leI z.2.2.1, leI z.2.2.2⟩).nx
  · exact H.f0.nx
theorem nx_speed {p0 p1 : Int32} (H : GInv g n f c d) : GInv (mSpeed g p0 p1) n f (c + 1) (d + 8) := by
  unfold mSpeed
  split
  · rename_i z
    exact (H.f0.speed ⟨leI z.2.1, leI z.2.2⟩).nx
  · exact H.f0.nx
theorem nx_drop {p0 : Int32} (H : GInv g n f c d) : GInv (mDrop g p0) n f (c + 1) (d + 8) := by
  unfold mDrop
  split
  · exact H.f0.drop.nx
  · exact H.f0.nx
theorem nx_tick {p0 : Int32} (H : GInv g n f c d) (hc : c < 512) : GInv (mTick g n p0) n f (c + 1) (d + 8) := by
  unfold mTick
  split
  · rename_i z
    exact (H.f0.tick hc (leI z.1) (leI z.2)).up (Nat.le_refl _) (Nat.le_add_right d 8)
  · exact H.f0.nx
theorem nx_take {p0 p1 p2 : Int32} (H : GInv g n f c d) : GInv (mTake g n p0 p1 p2).1 n f (c + 1) (d + 8) := by
  unfold mTake
  split
  · rename_i z
    obtain ⟨k, hk, e⟩ := nI_lim (M := 5) (n := 5) (by decide) z.1.1
    rw [e, nI_clamp (by omega)]
    exact (H.f0.take (by omega) ⟨leI z.2.1, leI z.2.2⟩).nx
  · exact H.f0.nx
theorem nx_work {p0 : Int32} (H : GInv g n f c d) (hc : c < 512) (hd : d ≤ 99000) : GInv (mWork g n p0).1 n f (c + 1) (d + 8) := by
  unfold mWork
  split
  · rename_i z
    obtain ⟨k, hk, e⟩ := nI_lim (M := 5) (n := 5) (by decide) z
    rw [e, nI_clamp (by omega)]
    exact (H.f0.workN (by omega) (Nat.le_of_lt hc) hd 8 (Nat.le_refl _)).up (Nat.le_succ c) (Nat.le_refl _)
  · exact H.f0.nx
theorem nx_restart {p0 : Int32} (H : GInv g n f c d) : GInv (mRestart g n p0).1 n f (c + 1) (d + 8) := by
  unfold mRestart
  split
  · rename_i z
    obtain ⟨k, hk, e⟩ := nI_lim (M := 5) (n := 5) (by decide) z
    rw [e, nI_clamp (by omega)]
    exact (H.f0.restart (by omega)).nx
  · exact H.f0.nx
theorem nx_root {p0 p1 : Int32} (H : GInv g n f c d) : GInv (mRootQ g n p0 p1).1 n f (c + 1) (d + 8) := by
  unfold mRootQ
  split
  · exact H.f0.nx
  · exact H.f0.nx
theorem nx_gate {p0 p1 p2 : Int32} (H : GInv g n f c d) : GInv (mGateQ g n p0 p1 p2).1 n f (c + 1) (d + 8) := by
  unfold mGateQ
  split
  · exact H.f0.nx
  · exact H.f0.nx
theorem nx_message {p0 p1 : Int32} (H : GInv g n f c d) : GInv (mMessage g p0 p1).1 n f (c + 1) (d + 8) := by
  unfold mMessage
  split
  · exact H.f0.nx
  · exact H.f0.nx
theorem nx_clock {p0 : Int32} (H : GInv g n f c d) : GInv (mClock g p0).1 n f (c + 1) (d + 8) := by
  unfold mClock
  split
  · exact H.f0.nx
  · exact H.f0.nx
/-- what the law's carry needs of the message named by p0 -/
theorem cv_all (p0 : Int32) (H : GInv g n f c d) : ∃ gt kk h, (mIsMsg g p0 → CvF g n f p0.toNatClampNeg gt kk h) ∧ (mIsMsg g p0 → g.1 32 (8 * p0.toNatClampNeg) = 0 → mNew (iF g 1100 0) gt kk (g.1 32 (8 * p0.toNatClampNeg + 4)) (g.1 32 (8 * p0.toNatClampNeg + 5)) → n < 300) := by
  by_cases z : mIsMsg g p0
  · obtain ⟨q, e2, e1⟩ := mIsMsg_q H.b.mo z
    have hm2 := H.b.mo.2
    have e3 : p0.toNatClampNeg = q := by rw [e1, nI_clamp (by omega)]
    rw [e3]
    obtain ⟨gt, kk, h, F⟩ := cv_ex H e2
    exact ⟨gt, kk, h, fun _ => F, fun _ _ w => (H.f0 (v := 0)).new_lt F.1.1 F.1.2.1 (CvF.w (F.f0 (v := 0))) w⟩
  · exact ⟨0, 0, 0, fun u => absurd u z, fun u => absurd u z⟩
theorem nx_carry {p0 : Int32} {gt kk h : Nat} (H : GInv g n f c d) (hc : c < 512) (hF : mIsMsg g p0 → CvF g n f p0.toNatClampNeg gt kk h) : ∃ f2, GInv (mCarry g n p0 gt kk h).1 (mCn g n p0 gt kk) f2 (c + 1) (d + 8) := by
  unfold mCarry mCn
  split
  · rename_i z
    have F := CvF.f0 (v := 0) (hF z)
    have H0 := H.f0 (v := 0)
    unfold mCarryQ mNc
    by_cases k0 : (iF g 1100 0).1 32 (8 * p0.toNatClampNeg) = 0
    · rw [if_pos k0, if_pos k0]
      rcases F.2 with ⟨z1, z2, z3⟩ | ⟨z1, -⟩ | ⟨z1, -⟩
      · obtain ⟨f2, q⟩ := H0.asks (Nat.le_of_lt hc) F.1.1 F.1.2.1 F.w z2 z3
        exact ⟨f2, q.nx⟩
      · rw [z1] at k0; exact absurd k0 (by decide)
      · rw [z1] at k0; exact absurd k0 (by decide)
    · rw [if_neg k0, if_neg k0]
      by_cases k1 : (iF g 1100 0).1 32 (8 * p0.toNatClampNeg) = 1
      · rw [if_pos k1]
        exact ⟨f, (H0.arr F k1).nx⟩
      · rw [if_neg k1]
        rcases F.2 with ⟨z1, -⟩ | ⟨z1, -⟩ | ⟨z1, z2, z3, z4, z5⟩
        · exact absurd z1 k0
        · exact absurd z1 k1
        · exact ⟨f, (H0.ret F.1.2.1 z3 z5).nx⟩
  · exact ⟨f, H.f0.nx⟩
end NEXT
