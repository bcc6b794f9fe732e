/-! the law's loop: what holds at its head -/
def LI (S : PS) (y t : Nat → Nat) (dE a ob : Nat) (g : MS) (n : Nat) (f : Nat → Nat) (k : Nat) (cs : CS) : Prop :=
  (CR S y dE g cs ∧ CanB cs g n ∧ CanH cs g n) ∧ MR S a t g ∧ GInv g n f k (8 * k) ∧ (∀ j, t j ≠ y 7) ∧ (∀ j, t j ≠ ob) ∧ IsAt S 14 ob ∧ aN S ob = 1
def LJ (S : PS) (x0 dE a ob k : Nat) : Prop := ∃ y t g n f cs, y 0 = x0 ∧ LI S y t dE a ob g n f k cs
section LAWS
variable {S S1 S2 : PS} {y t : Nat → Nat} {dE a ob n n2 k : Nat} {g G : MS} {f f2 : Nat → Nat} {cs : CS}
theorem LI.mr (hI : LI S y t dE a ob g n f k cs) (hw : WP S S1 y dE ob G n2) : MR S1 a t g := by
  obtain ⟨⟨hC, -, -⟩, hM, -, h7, ho, hob, -⟩ := hI
  obtain ⟨c2, hF, -⟩ := hw
  exact hM.cf hF h7 ho hC.1.lay.k7 hob
theorem LI.ob1 (hI : LI S y t dE a ob g n f k cs) (hw : WP S S1 y dE ob G n2) (hO : MO S1 S2 a t) : IsAt S2 14 ob ∧ aN S2 ob = 1 := by
  obtain ⟨c2, hF, hn, -⟩ := hw
  have q := hF.1 _ _ hI.2.2.2.2.2.1
  refine ⟨⟨?_, ?_⟩, ?_⟩
  · rw [hO.1]; exact q.1
  · rw [hO.2.1]; exact q.2
  · rw [hO.2.2.2.2.1]; exact hn
theorem LI.next (hI : LI S y t dE a ob g n f k cs) (hw : WP S S1 y dE ob G n2) (hO : MO S1 S2 a t) (hM : MR S2 a t G) (hG : GInv G n2 f2 (k + 1) (8 * k + 8)) : LJ S2 (y 0) dE a ob (k + 1) := by
  have q := hI.ob1 hw hO
  have h11 := (hI.mr hw).1.1
  obtain ⟨⟨hC, -, -⟩, hM0, -, h7, ho, hob, -⟩ := hI
  obtain ⟨c2, hF, hn, hC2, hB2, hH2⟩ := hw
  exact ⟨y, t, G, n2, f2, c2, rfl, ⟨hC2.mo hO h11 h7, hB2, hH2⟩, hM, hG, h7, ho, q.1, q.2⟩
theorem LI.out (hI : LI S y t dE a ob g n f k cs) (hO : MO S1 S2 a t) : aJ S2 ob 0 = aJ S1 ob 0 := congrFun (hO.2.2.2.2.2.2.2.2 ob (fun j => (hI.2.2.2.2.1 j).symm)) 0
theorem mTake_b {p0 p1 p2 r : Int32} (e : r = (mTake g n p0 p1 p2).2) : r = 0 ∨ r = 1 := by
  rw [e]; unfold mTake
  split
  · exact mTkZ _ _ _ _ _
  · exact Or.inl rfl
theorem mCarry_b {p0 r : Int32} {gt kk h : Nat} (e : r = (mCarry g n p0 gt kk h).2) : r = 0 ∨ r = 1 := by
  rw [e]; unfold mCarry
  split
  · unfold mCarryQ
    split
    · exact mAsks_z _ _ _ _ _ _ _
    · split
      · rw [mArr_kHear]; exact kHear_z _ _ _ _ _ _ _ _
      · exact mRet_z _ _ _ _ _ _ _
  · exact Or.inl rfl
end LAWS
section LROWS
variable {p : Program} {l : Launch} {e : Env} {R : Room} {s : State} {m : MethodId} {args : Array Value} {below : List Frame} {meth : Method} {c : Code} {H : Heap} {locs : List Loc} {cells slots : Nat} {Q : State → Prop} {cc : ByteArray} {pc : Nat} {ls : Array Slot} {rest : List Value} {B : Nat}
theorem k_scr (hx : p.tables.exec = Jvm.exec) (hb : c.code = cc) {b L : Nat} {xs : Nat → Int32} (hX : va_X b L xs s s.heap) (hbl : b < s.heap.size) (hbA : ¬ Aw B b) (hS : va_S (Aw B) s.heap H locs) {j : Nat} {v : Int32} (hj : j < L) (hL : L ≤ 2048) (hv : xs j = v) (hdg : decode cc pc = .ok (.iaload, 1)) (kk : W p l e R s m args below meth c H locs cells slots Q (F0 m (pc + 1) ls (.int v :: rest))) : W p l e R s m args below meth c H locs cells slots Q (F0 m pc ls (.int (nI j) :: .ref b :: rest)) := by
  refine va_sld hx hb hX hbl hbA hS (vp_in_nI hj (by omega)) hdg ?_
  rw [nI_clamp (by omega), hv]; exact kk
end LROWS
