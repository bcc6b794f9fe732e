set_option maxRecDepth 10000
theorem CR.wt1 {S : PS} {y : Nat → Nat} {dE : Nat} {g : MS} {c : CS} {i : Nat} {v : Int32} (h : CR S y dE g c) : CR (sI S 901 (y (30 + i)) v) y dE (iI g 2 i v) c := ⟨h.1.wt1, h.2⟩
theorem CR.wgb {S : PS} {y : Nat → Nat} {dE : Nat} {g : MS} {c : CS} {i : Nat} {v : Int32} (h : CR S y dE g c) : CR (sI S 302 (y (10 + i)) v) y dE (iI g 20 i v) c := ⟨h.1.wgb, h.2⟩
theorem CR.wb1 {S : PS} {y : Nat → Nat} {dE : Nat} {g : MS} {c : CS} {i : Nat} {v : Int32} (h : CR S y dE g c) : CR (sI S 101 (y (40 + i)) v) y dE (iI g 3 i v) c := ⟨h.1.wb1, h.2⟩
theorem CR.wb2 {S : PS} {y : Nat → Nat} {dE : Nat} {g : MS} {c : CS} {i : Nat} {v : Int32} (h : CR S y dE g c) : CR (sI S 102 (y (40 + i)) v) y dE (iI g 4 i v) c := ⟨h.1.wb2, h.2⟩
theorem CR.wb5 {S : PS} {y : Nat → Nat} {dE : Nat} {g : MS} {c : CS} {i : Nat} {v : Int32} (h : CR S y dE g c) : CR (sI S 105 (y (40 + i)) v) y dE (iI g 6 i v) c := ⟨h.1.wb5, h.2⟩
theorem CR.wd3 {S : PS} {y : Nat → Nat} {dE : Nat} {g : MS} {c : CS} {i : Nat} {v : Int32} (h : CR S y dE g c) : CR (sI S 203 (y (100 + i)) v) y dE (iI g 21 i v) c := ⟨h.1.wd3, h.2⟩
theorem CR.wd4 {S : PS} {y : Nat → Nat} {dE : Nat} {g : MS} {c : CS} {i : Nat} {v : Int32} (h : CR S y dE g c) : CR (sI S 204 (y (100 + i)) v) y dE (iI g 22 i v) c := ⟨h.1.wd4, h.2⟩
theorem CR.wd5 {S : PS} {y : Nat → Nat} {dE : Nat} {g : MS} {c : CS} {i : Nat} {v : Int32} (h : CR S y dE g c) : CR (sI S 205 (y (100 + i)) v) y dE (iI g 23 i v) c := ⟨h.1.wd5, h.2⟩
theorem CR.wd6 {S : PS} {y : Nat → Nat} {dE : Nat} {g : MS} {c : CS} {i : Nat} {v : Int32} (h : CR S y dE g c) : CR (sI S 206 (y (100 + i)) v) y dE (iI g 24 i v) c := ⟨h.1.wd6, h.2⟩
theorem CR.wd7 {S : PS} {y : Nat → Nat} {dE : Nat} {g : MS} {c : CS} {i : Nat} {v : Int32} (h : CR S y dE g c) : CR (sI S 207 (y (100 + i)) v) y dE (iI g 25 i v) c := ⟨h.1.wd7, h.2⟩
theorem CR.wd8 {S : PS} {y : Nat → Nat} {dE : Nat} {g : MS} {c : CS} {i : Nat} {v : Int32} (h : CR S y dE g c) : CR (sI S 208 (y (100 + i)) v) y dE (iI g 26 i v) c := ⟨h.1.wd8, h.2⟩
theorem CR.wa0 {S : PS} {y : Nat → Nat} {dE : Nat} {g : MS} {c : CS} {i : Nat} {v : Int32} (h : CR S y dE g c) : CR (sI S 0 (y (300 + i)) v) y dE (iI g 19 i v) c := ⟨h.1.wa0, h.2⟩
theorem CR.wa1 {S : PS} {y : Nat → Nat} {dE : Nat} {g : MS} {c : CS} {i : Nat} {v : Int32} (h : CR S y dE g c) : CR (sI S 1 (y (300 + i)) v) y dE (iI g 17 i v) c := ⟨h.1.wa1, h.2⟩
theorem CR.wa2 {S : PS} {y : Nat → Nat} {dE : Nat} {g : MS} {c : CS} {i : Nat} {v : Int32} (h : CR S y dE g c) : CR (sI S 2 (y (300 + i)) v) y dE (iI g 18 i v) c := ⟨h.1.wa2, h.2⟩
theorem CR.wt0 {S : PS} {y : Nat → Nat} {dE : Nat} {g : MS} {c : CS} {i : Nat} {v : Int64} (h : CR S y dE g c) : CR (sJ S 900 (y (30 + i)) v) y dE (iL g 1 i v) c := ⟨h.1.wt0, h.2⟩
theorem CR.wll {S : PS} {y : Nat → Nat} {dE : Nat} {g : MS} {c : CS} {v : Int32} (h : CR S y dE g c) : CR (sI S 804 (y 1) v) y dE (iF g 1111 v) c := ⟨h.1.wll, h.2⟩
theorem CR.wln {S : PS} {y : Nat → Nat} {dE : Nat} {g : MS} {c : CS} {v : Int32} (h : CR S y dE g c) : CR (sI S 805 (y 1) v) y dE (iF g 1107 v) c := ⟨h.1.wln, h.2⟩
theorem CR.wb3 {S : PS} {y : Nat → Nat} {dE : Nat} {g : MS} {c : CS} {i : Nat} {v : Int32} {w : Int64} (e1 : w.toInt32 = v) (h : CR S y dE g c) : CR (sI S 103 (y (40 + i)) v) y dE (iL g 5 i w) c := ⟨h.1.wb3 e1, h.2⟩
theorem CR.wb4 {S : PS} {y : Nat → Nat} {dE : Nat} {g : MS} {c : CS} {i : Nat} {v : Int32} (h : CR S y dE g c) : CR (sI S 104 (y (40 + i)) v) y dE g (csE c i v) := ⟨h.1.wb4, h.2⟩
theorem CR.whold {S : PS} {y : Nat → Nat} {dE : Nat} {g : MS} {c : CS} {h0 : Nat} {v : Int32} (h : CR S y dE g c) (k2 : fI S 400 (cH c h0) = nI h0) (k6 : h0 < 300) : CR (sI S 403 (cH c h0) v) y dE (iI g 28 h0 v) c := ⟨h.1.whold k2 k6, h.2⟩
theorem CR.whb {S : PS} {y : Nat → Nat} {dE : Nat} {g : MS} {c : CS} {i : Nat} {v : Int32} (h : CR S y dE g c) (hf : ∀ k, k < 8 → g.1 13 (8 * i + k) = -1) : CR (tI S (y 7) i v) y dE (iI g 12 i v) c := ⟨h.1.whb hf, h.2⟩
theorem Lay.tq4 {S : PS} {y : Nat → Nat} {q : Nat} {v : Option Nat} (h : Lay S y) : Lay (tQ S (y 4) q v) y := by
  exact ⟨h.k0, h.k1, h.k2, h.k3, h.k4, h.k5, h.k6, h.k7, h.n3, h.n4, h.n5, h.n6, h.n7, h.r1000, h.r1001, h.r1002, h.r700, h.r800, h.r801, h.r802, h.r803, h.gk, (fun i hi => by rw [tQ_a (fun z => absurd (h.inj _ _ z) (by omega))]; exact h.ga i hi), h.r300, h.r301, h.dk, h.dn, (fun i k hi hk => by rw [tQ_a (fun z => absurd (h.inj _ _ z) (by omega))]; exact h.da i k hi hk), h.tk, h.bk, (fun i hi => by rw [tQ_a (fun z => absurd (h.inj _ _ z) (by omega))]; exact h.ba i hi), h.r100, h.ek, h.r202, h.ck, (fun i hi => by rw [tQ_a (fun z => absurd (h.inj _ _ z) (by omega))]; exact h.ca i hi), h.e0, h.e1, h.inj⟩
theorem AL.tq {S : PS} {dE a ea b q : Nat} {v : Option Nat} {L : List Nat} (h : AL S dE a ea L) (hb : IsAt S 20 b) : AL (tQ S b q v) dE a ea L := by
  refine ⟨h.1, h.2.1, h.2.2.1, h.2.2.2.1, ?_⟩
  rcases h.2.2.2.2 with z | z
  · exact Or.inl z
  · exact Or.inr ⟨z.1, z.2.1, z.2.2.1, z.2.2.2.1, fun i hi => by rw [tQ_a (z.1.ne hb (by decide))]; exact z.2.2.2.2 i hi⟩
def mPost (g : MS) (q : Nat) (x0 x1 x2 x3 x4 x5 x6 x7 : Int32) : MS := iF (iI (iI (iI (iI (iI (iI (iI (iI (iI g 32 (8 * q) x0) 32 (8 * q + 1) x1) 32 (8 * q + 2) x2) 32 (8 * q + 3) x3) 32 (8 * q + 4) x4) 32 (8 * q + 5) x5) 32 (8 * q + 6) x6) 32 (8 * q + 7) x7) 33 q 1) 1131 (nI (q + 1))
theorem mPost_0 (g : MS) (q : Nat) (x0 x1 x2 x3 x4 x5 x6 : Int32) : mSendG g q x0 x1 x2 x3 x4 x5 x6 = mPost g q x0 x1 x2 x3 x4 x5 x6 0 := rfl
theorem iI_j {g : MS} {j i k : Nat} {v : Int32} (h : k ≠ j) : (iI g j i v).1 k = g.1 k := va_up_ne _ _ h
theorem iI_32 {g : MS} {i k : Nat} {v : Int32} : (iI g 32 i v).1 32 k = if k = i then v else g.1 32 k := by
  by_cases e : k = i
  · rw [if_pos e, e]; exact iI_s
  · rw [if_neg e]; exact iI_o e
theorem mPost_old (g : MS) (q : Nat) (x0 x1 x2 x3 x4 x5 x6 x7 : Int32) {i : Nat} (h : i < 8 * q) : (mPost g q x0 x1 x2 x3 x4 x5 x6 x7).1 32 i = g.1 32 i := by
  show (iI (iI (iI (iI (iI (iI (iI (iI g 32 (8 * q) x0) 32 (8 * q + 1) x1) 32 (8 * q + 2) x2) 32 (8 * q + 3) x3) 32 (8 * q + 4) x4) 32 (8 * q + 5) x5) 32 (8 * q + 6) x6) 32 (8 * q + 7) x7).1 32 i = _
  rw [iI_o (by omega), iI_o (by omega), iI_o (by omega), iI_o (by omega), iI_o (by omega), iI_o (by omega), iI_o (by omega), iI_o (by omega)]
theorem mPost_a (g : MS) (q : Nat) (x0 x1 x2 x3 x4 x5 x6 x7 : Int32) : (mPost g q x0 x1 x2 x3 x4 x5 x6 x7).1 32 (8 * q) = x0 := by
  show (iI (iI (iI (iI (iI (iI (iI (iI g 32 (8 * q) x0) 32 (8 * q + 1) x1) 32 (8 * q + 2) x2) 32 (8 * q + 3) x3) 32 (8 * q + 4) x4) 32 (8 * q + 5) x5) 32 (8 * q + 6) x6) 32 (8 * q + 7) x7).1 32 (8 * q) = _
  rw [iI_o (by omega), iI_o (by omega), iI_o (by omega), iI_o (by omega), iI_o (by omega), iI_o (by omega), iI_o (by omega), iI_s]
theorem mPost_b (g : MS) (q : Nat) (x0 x1 x2 x3 x4 x5 x6 x7 : Int32) : (mPost g q x0 x1 x2 x3 x4 x5 x6 x7).1 32 (8 * q + 1) = x1 := by
  show (iI (iI (iI (iI (iI (iI (iI (iI g 32 (8 * q) x0) 32 (8 * q + 1) x1) 32 (8 * q + 2) x2) 32 (8 * q + 3) x3) 32 (8 * q + 4) x4) 32 (8 * q + 5) x5) 32 (8 * q + 6) x6) 32 (8 * q + 7) x7).1 32 (8 * q + 1) = _
  rw [iI_o (by omega), iI_o (by omega), iI_o (by omega), iI_o (by omega), iI_o (by omega), iI_o (by omega), iI_s]
theorem mPost_c (g : MS) (q : Nat) (x0 x1 x2 x3 x4 x5 x6 x7 : Int32) : (mPost g q x0 x1 x2 x3 x4 x5 x6 x7).1 32 (8 * q + 2) = x2 := by
  show (iI (iI (iI (iI (iI (iI (iI (iI g 32 (8 * q) x0) 32 (8 * q + 1) x1) 32 (8 * q + 2) x2) 32 (8 * q + 3) x3) 32 (8 * q + 4) x4) 32 (8 * q + 5) x5) 32 (8 * q + 6) x6) 32 (8 * q + 7) x7).1 32 (8 * q + 2) = _
  rw [iI_o (by omega), iI_o (by omega), iI_o (by omega), iI_o (by omega), iI_o (by omega), iI_s]
theorem mPost_d (g : MS) (q : Nat) (x0 x1 x2 x3 x4 x5 x6 x7 : Int32) : (mPost g q x0 x1 x2 x3 x4 x5 x6 x7).1 32 (8 * q + 3) = x3 := by
  show (iI (iI (iI (iI (iI (iI (iI (iI g 32 (8 * q) x0) 32 (8 * q + 1) x1) 32 (8 * q + 2) x2) 32 (8 * q + 3) x3) 32 (8 * q + 4) x4) 32 (8 * q + 5) x5) 32 (8 * q + 6) x6) 32 (8 * q + 7) x7).1 32 (8 * q + 3) = _
  rw [iI_o (by omega), iI_o (by omega), iI_o (by omega), iI_o (by omega), iI_s]
theorem mPost_e (g : MS) (q : Nat) (x0 x1 x2 x3 x4 x5 x6 x7 : Int32) : (mPost g q x0 x1 x2 x3 x4 x5 x6 x7).1 32 (8 * q + 4) = x4 := by
  show (iI (iI (iI (iI (iI (iI (iI (iI g 32 (8 * q) x0) 32 (8 * q + 1) x1) 32 (8 * q + 2) x2) 32 (8 * q + 3) x3) 32 (8 * q + 4) x4) 32 (8 * q + 5) x5) 32 (8 * q + 6) x6) 32 (8 * q + 7) x7).1 32 (8 * q + 4) = _
  rw [iI_o (by omega), iI_o (by omega), iI_o (by omega), iI_s]
theorem mPost_f (g : MS) (q : Nat) (x0 x1 x2 x3 x4 x5 x6 x7 : Int32) : (mPost g q x0 x1 x2 x3 x4 x5 x6 x7).1 32 (8 * q + 5) = x5 := by
  show (iI (iI (iI (iI (iI (iI (iI (iI g 32 (8 * q) x0) 32 (8 * q + 1) x1) 32 (8 * q + 2) x2) 32 (8 * q + 3) x3) 32 (8 * q + 4) x4) 32 (8 * q + 5) x5) 32 (8 * q + 6) x6) 32 (8 * q + 7) x7).1 32 (8 * q + 5) = _
  rw [iI_o (by omega), iI_o (by omega), iI_s]
theorem mPost_g (g : MS) (q : Nat) (x0 x1 x2 x3 x4 x5 x6 x7 : Int32) : (mPost g q x0 x1 x2 x3 x4 x5 x6 x7).1 32 (8 * q + 6) = x6 := by
  show (iI (iI (iI (iI (iI (iI (iI (iI g 32 (8 * q) x0) 32 (8 * q + 1) x1) 32 (8 * q + 2) x2) 32 (8 * q + 3) x3) 32 (8 * q + 4) x4) 32 (8 * q + 5) x5) 32 (8 * q + 6) x6) 32 (8 * q + 7) x7).1 32 (8 * q + 6) = _
  rw [iI_o (by omega), iI_s]
theorem mPost_h (g : MS) (q : Nat) (x0 x1 x2 x3 x4 x5 x6 x7 : Int32) : (mPost g q x0 x1 x2 x3 x4 x5 x6 x7).1 32 (8 * q + 7) = x7 := by
  show (iI (iI (iI (iI (iI (iI (iI (iI g 32 (8 * q) x0) 32 (8 * q + 1) x1) 32 (8 * q + 2) x2) 32 (8 * q + 3) x3) 32 (8 * q + 4) x4) 32 (8 * q + 5) x5) 32 (8 * q + 6) x6) 32 (8 * q + 7) x7).1 32 (8 * q + 7) = _
  rw [iI_s]
theorem mPost_33 (g : MS) (q : Nat) (x0 x1 x2 x3 x4 x5 x6 x7 : Int32) {i : Nat} : (mPost g q x0 x1 x2 x3 x4 x5 x6 x7).1 33 i = if i = q then 1 else g.1 33 i := by
  show (iI _ 33 q 1).1 33 i = _
  by_cases e : i = q
  · rw [if_pos e, e]; exact iI_s
  · rw [if_neg e]; exact iI_o e
theorem mPost_n {g : MS} {q : Nat} (x0 x1 x2 x3 x4 x5 x6 x7 : Int32) (hq : q < 300) : mqN (mPost g q x0 x1 x2 x3 x4 x5 x6 x7) = q + 1 := by
  show ((iF _ 1131 (nI (q + 1))).2.2 1131).toNatClampNeg = _
  rw [iF_s]
  exact nI_clamp (by omega)
theorem mPost_7 (g : MS) (q : Nat) (x0 x1 x2 x3 x4 x5 x6 x7 : Int32) : iI (mSendG g q x0 x1 x2 x3 x4 x5 x6) 32 (8 * q + 7) x7 = mPost g q x0 x1 x2 x3 x4 x5 x6 x7 := by
  refine Prod.ext (funext fun j => funext fun i => ?_) rfl
  by_cases e : j = 32
  · subst e
    by_cases e2 : i = 8 * q + 7
    · subst e2; rw [iI_s, mPost_h]
    · rw [iI_o e2]
      show (iI _ 32 (8 * q + 7) 0).1 32 i = (iI _ 32 (8 * q + 7) x7).1 32 i
      rw [iI_o e2, iI_o e2]
  · show va_up (mSendG g q x0 x1 x2 x3 x4 x5 x6).1 32 _ j i = _
    rw [va_up_ne _ _ e]
    by_cases e3 : j = 33
    · subst e3; rfl
    · show (iI (iI _ 32 (8 * q + 7) 0) 33 q 1).1 j i = (iI (iI _ 32 (8 * q + 7) x7) 33 q 1).1 j i
      rw [iI_j (g := iI _ 32 (8 * q + 7) 0) e3, iI_j (g := iI _ 32 (8 * q + 7) x7) e3, iI_j (v := 0) e, iI_j (v := x7) e]
theorem CR.post {S : PS} {y : Nat → Nat} {dE : Nat} {g : MS} {c : CS} {q m : Nat} {x0 x1 x2 x3 x4 x5 x6 x7 : Int32} (h : CR S y dE g c) (he : mqN g = q) (hq : q < 300) (hM : MsgAt S m x0 x1 x2 x4 x3 x5 x6 x7) : CR (sI (tQ S (y 4) q (some m)) 701 (y 2) (nI (q + 1))) y dE (mPost g q x0 x1 x2 x3 x4 x5 x6 x7) c := by
  refine ⟨⟨(Lay.tq4 (q := q) (v := some m) h.1.lay), h.1.t0, h.1.t1, h.1.gb, h.1.hb, h.1.ll, h.1.ln, h.1.b1, h.1.b2, h.1.b3, h.1.b4, h.1.b5, h.1.d3, h.1.d4, h.1.d5, h.1.d6, h.1.d7, h.1.d8, h.1.a0, h.1.a1, h.1.a2, h.1.a3, (sI_s).trans iF_s.symm, (fun i hi => by
    rw [mPost_n x0 x1 x2 x3 x4 x5 x6 x7 hq] at hi
    by_cases e : i = q
    · refine Or.inr ⟨by rw [mPost_33, if_pos e], m, ?_, ?_⟩
      · show aQ (tQ S (y 4) q (some m)) (y 4) i = _
        rw [tQ_s, e]; exact up_same _ _ _
      · rw [e, mPost_a, mPost_b, mPost_c, mPost_d, mPost_e, mPost_f, mPost_g, mPost_h]; exact hM
    · rw [mPost_33, if_neg e, mPost_old _ _ _ _ _ _ _ _ _ _ (i := 8 * i) (by omega), mPost_old _ _ _ _ _ _ _ _ _ _ (i := 8 * i + 1) (by omega), mPost_old _ _ _ _ _ _ _ _ _ _ (i := 8 * i + 2) (by omega), mPost_old _ _ _ _ _ _ _ _ _ _ (i := 8 * i + 3) (by omega), mPost_old _ _ _ _ _ _ _ _ _ _ (i := 8 * i + 4) (by omega), mPost_old _ _ _ _ _ _ _ _ _ _ (i := 8 * i + 5) (by omega), mPost_old _ _ _ _ _ _ _ _ _ _ (i := 8 * i + 6) (by omega), mPost_old _ _ _ _ _ _ _ _ _ _ (i := 8 * i + 7) (by omega)]
      rw [show aQ (sI (tQ S (y 4) q (some m)) 701 (y 2) (nI (q + 1))) (y 4) i = aQ S (y 4) i from by show aQ (tQ S (y 4) q (some m)) (y 4) i = _; rw [tQ_s, va_up_ne _ _ e]]
      exact h.1.ms i (by omega)), h.1.hv, h.1.bv⟩, fun i hi => (h.2.hl i hi).tq h.1.lay.k4, fun i hi => (h.2.bl i hi).tq h.1.lay.k4, h.2.ai, h.2.nd⟩
theorem CR.drop {S : PS} {y : Nat → Nat} {dE : Nat} {g : MS} {c : CS} {q : Nat} (h : CR S y dE g c) : CR (tQ S (y 4) q none) y dE (iI g 33 q 0) c := by
  refine ⟨⟨(Lay.tq4 (q := q) (v := none) h.1.lay), h.1.t0, h.1.t1, h.1.gb, h.1.hb, h.1.ll, h.1.ln, h.1.b1, h.1.b2, h.1.b3, h.1.b4, h.1.b5, h.1.d3, h.1.d4, h.1.d5, h.1.d6, h.1.d7, h.1.d8, h.1.a0, h.1.a1, h.1.a2, h.1.a3, h.1.pc, (fun i hi => by
    by_cases e : i = q
    · exact Or.inl ⟨by rw [e]; exact iI_s, by rw [tQ_s, e]; exact up_same _ _ _⟩
    · rw [show (iI g 33 q 0).1 33 i = g.1 33 i from iI_o e, show aQ (tQ S (y 4) q none) (y 4) i = aQ S (y 4) i from by rw [tQ_s, va_up_ne _ _ e]]
      exact h.1.ms i hi), h.1.hv, h.1.bv⟩, fun i hi => (h.2.hl i hi).tq h.1.lay.k4, fun i hi => (h.2.bl i hi).tq h.1.lay.k4, h.2.ai, h.2.nd⟩
theorem CR.answer {S : PS} {y : Nat → Nat} {dE : Nat} {g : MS} {c : CS} {gt kk m : Nat} {tok cnt num len : Int32} (h : CR S y dE g c) (hg : gt < 6) (hk : kk < 8) (hc : ¬ cnt = -1) (hM : MsgAt S m 1 (nI gt) (nI kk) (g.1 12 gt) tok cnt num len) : CR (sR S 3 (y (300 + (8 * gt + kk))) (some m)) y dE (iI (iI (iI (iI g 13 (8 * gt + kk) cnt) 15 (8 * gt + kk) tok) 16 (8 * gt + kk) len) 14 (8 * gt + kk) num) c := by
  refine ⟨⟨h.1.lay, h.1.t0, h.1.t1, h.1.gb, h.1.hb, h.1.ll, h.1.ln, h.1.b1, h.1.b2, h.1.b3, h.1.b4, h.1.b5, h.1.d3, h.1.d4, h.1.d5, h.1.d6, h.1.d7, h.1.d8, h.1.a0, h.1.a1, h.1.a2, (fun i k hi hk => by
    by_cases e : 8 * i + k = 8 * gt + kk
    · obtain ⟨e1, e2⟩ : i = gt ∧ k = kk := by omega
      subst e1; subst e2
      exact Or.inr ⟨by rw [show (iI (iI (iI (iI g 13 (8 * i + k) cnt) 15 (8 * i + k) tok) 16 (8 * i + k) len) 14 (8 * i + k) num).1 13 (8 * i + k) = cnt from iI_s (g := g) (j := 13) (i := 8 * i + k) (v := cnt)]; exact hc, m, sR_s, by rw [show (iI (iI (iI (iI g 13 (8 * i + k) cnt) 15 (8 * i + k) tok) 16 (8 * i + k) len) 14 (8 * i + k) num).1 13 (8 * i + k) = cnt from iI_s (g := g) (j := 13) (i := 8 * i + k) (v := cnt), show (iI (iI (iI (iI g 13 (8 * i + k) cnt) 15 (8 * i + k) tok) 16 (8 * i + k) len) 14 (8 * i + k) num).1 15 (8 * i + k) = tok from iI_s (g := (iI g 13 (8 * i + k) cnt)) (j := 15) (i := 8 * i + k) (v := tok), show (iI (iI (iI (iI g 13 (8 * i + k) cnt) 15 (8 * i + k) tok) 16 (8 * i + k) len) 14 (8 * i + k) num).1 16 (8 * i + k) = len from iI_s (g := (iI (iI g 13 (8 * i + k) cnt) 15 (8 * i + k) tok)) (j := 16) (i := 8 * i + k) (v := len), show (iI (iI (iI (iI g 13 (8 * i + k) cnt) 15 (8 * i + k) tok) 16 (8 * i + k) len) 14 (8 * i + k) num).1 14 (8 * i + k) = num from iI_s (g := (iI (iI (iI g 13 (8 * i + k) cnt) 15 (8 * i + k) tok) 16 (8 * i + k) len)) (j := 14) (i := 8 * i + k) (v := num)]; exact hM⟩
    · have n : y (300 + (8 * i + k)) ≠ y (300 + (8 * gt + kk)) := fun z => e (by have := h.1.lay.inj _ _ z; omega)
      rw [show fR (sR S 3 (y (300 + (8 * gt + kk))) (some m)) 3 (y (300 + (8 * i + k))) = fR S 3 (y (300 + (8 * i + k))) from sR_a n]
      have r := h.1.a3 i k hi hk
      rw [show (iI (iI (iI (iI g 13 (8 * gt + kk) cnt) 15 (8 * gt + kk) tok) 16 (8 * gt + kk) len) 14 (8 * gt + kk) num).1 13 (8 * i + k) = g.1 13 (8 * i + k) from iI_o (g := g) (j := 13) (i := 8 * gt + kk) (v := cnt) e, show (iI (iI (iI (iI g 13 (8 * gt + kk) cnt) 15 (8 * gt + kk) tok) 16 (8 * gt + kk) len) 14 (8 * gt + kk) num).1 15 (8 * i + k) = g.1 15 (8 * i + k) from iI_o (g := (iI g 13 (8 * gt + kk) cnt)) (j := 15) (i := 8 * gt + kk) (v := tok) e, show (iI (iI (iI (iI g 13 (8 * gt + kk) cnt) 15 (8 * gt + kk) tok) 16 (8 * gt + kk) len) 14 (8 * gt + kk) num).1 16 (8 * i + k) = g.1 16 (8 * i + k) from iI_o (g := (iI (iI g 13 (8 * gt + kk) cnt) 15 (8 * gt + kk) tok)) (j := 16) (i := 8 * gt + kk) (v := len) e, show (iI (iI (iI (iI g 13 (8 * gt + kk) cnt) 15 (8 * gt + kk) tok) 16 (8 * gt + kk) len) 14 (8 * gt + kk) num).1 14 (8 * i + k) = g.1 14 (8 * i + k) from iI_o (g := (iI (iI (iI g 13 (8 * gt + kk) cnt) 15 (8 * gt + kk) tok) 16 (8 * gt + kk) len)) (j := 14) (i := 8 * gt + kk) (v := num) e]
      exact r), h.1.pc, h.1.ms, h.1.hv, h.1.bv⟩, h.2⟩
theorem CR.forget {S : PS} {y : Nat → Nat} {dE : Nat} {g : MS} {c : CS} {gt kk : Nat} (h : CR S y dE g c) (hg : gt < 6) (hk : kk < 8) : CR (sR S 3 (y (300 + (8 * gt + kk))) none) y dE (iI g 13 (8 * gt + kk) (-1)) c := by
  refine ⟨⟨h.1.lay, h.1.t0, h.1.t1, h.1.gb, h.1.hb, h.1.ll, h.1.ln, h.1.b1, h.1.b2, h.1.b3, h.1.b4, h.1.b5, h.1.d3, h.1.d4, h.1.d5, h.1.d6, h.1.d7, h.1.d8, h.1.a0, h.1.a1, h.1.a2, (fun i k hi hk => by
    by_cases e : 8 * i + k = 8 * gt + kk
    · obtain ⟨e1, e2⟩ : i = gt ∧ k = kk := by omega
      subst e1; subst e2
      exact Or.inl ⟨iI_s, sR_s⟩
    · have n : y (300 + (8 * i + k)) ≠ y (300 + (8 * gt + kk)) := fun z => e (by have := h.1.lay.inj _ _ z; omega)
      rw [show fR (sR S 3 (y (300 + (8 * gt + kk))) none) 3 (y (300 + (8 * i + k))) = fR S 3 (y (300 + (8 * i + k))) from sR_a n]
      have r := h.1.a3 i k hi hk
      rw [show (iI g 13 (8 * gt + kk) (-1)).1 13 (8 * i + k) = g.1 13 (8 * i + k) from iI_o e]
      exact r), h.1.pc, h.1.ms, h.1.hv, h.1.bv⟩, h.2⟩
theorem CR.g27 {S : PS} {y : Nat → Nat} {dE : Nat} {g : MS} {c : CS} {i : Nat} {v : Int32} (h : CR S y dE g c) : CR S y dE (iI g 27 i v) c := by
  exact ⟨⟨h.1.lay, h.1.t0, h.1.t1, h.1.gb, h.1.hb, h.1.ll, h.1.ln, h.1.b1, h.1.b2, h.1.b3, h.1.b4, h.1.b5, h.1.d3, h.1.d4, h.1.d5, h.1.d6, h.1.d7, h.1.d8, h.1.a0, h.1.a1, h.1.a2, h.1.a3, h.1.pc, h.1.ms, h.1.hv, h.1.bv⟩, h.2⟩
theorem CR.g8 {S : PS} {y : Nat → Nat} {dE : Nat} {g : MS} {c : CS} {i : Nat} {v : Int32} (h : CR S y dE g c) : CR S y dE (iI g 8 i v) c := by
  exact ⟨⟨h.1.lay, h.1.t0, h.1.t1, h.1.gb, h.1.hb, h.1.ll, h.1.ln, h.1.b1, h.1.b2, h.1.b3, h.1.b4, h.1.b5, h.1.d3, h.1.d4, h.1.d5, h.1.d6, h.1.d7, h.1.d8, h.1.a0, h.1.a1, h.1.a2, h.1.a3, h.1.pc, h.1.ms, h.1.hv, h.1.bv⟩, h.2⟩
theorem CR.f1100 {S : PS} {y : Nat → Nat} {dE : Nat} {g : MS} {c : CS} {v : Int32} (h : CR S y dE g c) : CR S y dE (iF g 1100 v) c := by
  exact ⟨⟨h.1.lay, h.1.t0, h.1.t1, h.1.gb, h.1.hb, h.1.ll, h.1.ln, h.1.b1, h.1.b2, h.1.b3, h.1.b4, h.1.b5, h.1.d3, h.1.d4, h.1.d5, h.1.d6, h.1.d7, h.1.d8, h.1.a0, h.1.a1, h.1.a2, h.1.a3, h.1.pc, h.1.ms, h.1.hv, h.1.bv⟩, h.2⟩
theorem CR.g28 {S : PS} {y : Nat → Nat} {dE : Nat} {g : MS} {c : CS} {h0 : Nat} {v : Int32} (h : CR S y dE g c) (hn : ∀ i, i < 48 → h0 ∉ cP c i) : CR S y dE (iI g 28 h0 v) c := by
  exact ⟨⟨h.1.lay, h.1.t0, h.1.t1, h.1.gb, h.1.hb, h.1.ll, h.1.ln, h.1.b1, h.1.b2, h.1.b3, h.1.b4, h.1.b5, h.1.d3, h.1.d4, h.1.d5, h.1.d6, h.1.d7, h.1.d8, h.1.a0, h.1.a1, h.1.a2, h.1.a3, h.1.pc, h.1.ms, (fun i hi x hx => by
    obtain ⟨z1, z2, z3, z4, z5, z6⟩ := h.1.hv i hi x hx
    exact ⟨z1, z2, z3, z4, z5.trans (show (iI g 28 h0 v).1 28 x = g.1 28 x from iI_o (fun e => hn i hi (by rw [← e]; exact hx))).symm, z6⟩), h.1.bv⟩, h.2⟩
theorem CR.g29 {S : PS} {y : Nat → Nat} {dE : Nat} {g : MS} {c : CS} {h0 : Nat} {v : Int32} (h : CR S y dE g c) (hn : ∀ i, i < 48 → h0 ∉ cP c i) : CR S y dE (iI g 29 h0 v) c := by
  exact ⟨⟨h.1.lay, h.1.t0, h.1.t1, h.1.gb, h.1.hb, h.1.ll, h.1.ln, h.1.b1, h.1.b2, h.1.b3, h.1.b4, h.1.b5, h.1.d3, h.1.d4, h.1.d5, h.1.d6, h.1.d7, h.1.d8, h.1.a0, h.1.a1, h.1.a2, h.1.a3, h.1.pc, h.1.ms, (fun i hi x hx => by
    obtain ⟨z1, z2, z3, z4, z5, z6⟩ := h.1.hv i hi x hx
    exact ⟨z1, z2, z3.trans (show (iI g 29 h0 v).1 29 x = g.1 29 x from iI_o (fun e => hn i hi (by rw [← e]; exact hx))).symm, z4, z5, z6⟩), h.1.bv⟩, h.2⟩
theorem CR.g30 {S : PS} {y : Nat → Nat} {dE : Nat} {g : MS} {c : CS} {h0 : Nat} {v : Int32} (h : CR S y dE g c) (hn : ∀ i, i < 48 → h0 ∉ cP c i) : CR S y dE (iI g 30 h0 v) c := by
  exact ⟨⟨h.1.lay, h.1.t0, h.1.t1, h.1.gb, h.1.hb, h.1.ll, h.1.ln, h.1.b1, h.1.b2, h.1.b3, h.1.b4, h.1.b5, h.1.d3, h.1.d4, h.1.d5, h.1.d6, h.1.d7, h.1.d8, h.1.a0, h.1.a1, h.1.a2, h.1.a3, h.1.pc, h.1.ms, (fun i hi x hx => by
    obtain ⟨z1, z2, z3, z4, z5, z6⟩ := h.1.hv i hi x hx
    exact ⟨z1, z2, z3, z4.trans (by rw [show (iI g 30 h0 v).1 30 x = g.1 30 x from iI_o (fun e => hn i hi (by rw [← e]; exact hx))]), z5, z6⟩), h.1.bv⟩, h.2⟩
theorem CR.g9 {S : PS} {y : Nat → Nat} {dE : Nat} {g : MS} {c : CS} {h0 : Nat} {v : Int32} (h : CR S y dE g c) (hn : ∀ i, i < 8 → h0 ∉ cQl c i) : CR S y dE (iI g 9 h0 v) c := by
  exact ⟨⟨h.1.lay, h.1.t0, h.1.t1, h.1.gb, h.1.hb, h.1.ll, h.1.ln, h.1.b1, h.1.b2, h.1.b3, h.1.b4, h.1.b5, h.1.d3, h.1.d4, h.1.d5, h.1.d6, h.1.d7, h.1.d8, h.1.a0, h.1.a1, h.1.a2, h.1.a3, h.1.pc, h.1.ms, h.1.hv, (fun i hi x hx => by
    obtain ⟨z1, z2, z3, z4, z5⟩ := h.1.bv i hi x hx
    exact ⟨z1, z2, z3.trans (show (iI g 9 h0 v).1 9 x = g.1 9 x from iI_o (fun e => hn i hi (by rw [← e]; exact hx))).symm, z4, z5⟩)⟩, h.2⟩
theorem CR.g10 {S : PS} {y : Nat → Nat} {dE : Nat} {g : MS} {c : CS} {h0 : Nat} {v : Int32} (h : CR S y dE g c) (hn : ∀ i, i < 8 → h0 ∉ cQl c i) : CR S y dE (iI g 10 h0 v) c := by
  exact ⟨⟨h.1.lay, h.1.t0, h.1.t1, h.1.gb, h.1.hb, h.1.ll, h.1.ln, h.1.b1, h.1.b2, h.1.b3, h.1.b4, h.1.b5, h.1.d3, h.1.d4, h.1.d5, h.1.d6, h.1.d7, h.1.d8, h.1.a0, h.1.a1, h.1.a2, h.1.a3, h.1.pc, h.1.ms, h.1.hv, (fun i hi x hx => by
    obtain ⟨z1, z2, z3, z4, z5⟩ := h.1.bv i hi x hx
    exact ⟨z1, z2, z3, z4.trans (show (iI g 10 h0 v).1 10 x = g.1 10 x from iI_o (fun e => hn i hi (by rw [← e]; exact hx))).symm, z5⟩)⟩, h.2⟩
def csP (c : CS) (i e : Nat) (L : List Nat) : CS := (va_up (cA c) i e, cH c, cL c, va_up (cP c) i L, cQl c, cE c)
def csQ (c : CS) (i e : Nat) (L : List Nat) : CS := (va_up (cA c) (48 + i) e, cH c, cL c, cP c, va_up (cQl c) i L, cE c)
def csH (c : CS) (h q : Nat) : CS := (cA c, va_up (cH c) h q, cL c, cP c, cQl c, cE c)
def csL (c : CS) (h q : Nat) : CS := (cA c, cH c, va_up (cL c) h q, cP c, cQl c, cE c)
theorem AL.in21 {S : PS} {dE a ea : Nat} {L : List Nat} (h : AL S dE a ea L) : ea = dE ∨ IsAt S 21 ea := h.2.2.2.2.elim (fun z => Or.inl z.2) (fun z => Or.inr z.1)
/-- the array of each list -/
theorem CQ.arr {S : PS} {y : Nat → Nat} {dE : Nat} {c : CS} (h : CQ S y dE c) {i : Nat} (hi : i < 56) : cA c i = dE ∨ IsAt S 21 (cA c i) := by
  by_cases z : i < 48
  · exact (h.hl i z).in21
  · obtain ⟨j, rfl⟩ : ∃ j, i = 48 + j := ⟨i - 48, by omega⟩
    exact (h.bl j (by omega)).in21
theorem LK_list {S : PS} {y : Nat → Nat} {dE : Nat} {c : CS} (h : CQ S y dE c) {a i : Nat} (hi : i < 56) (ha : IsAt S 12 a) : LK S (fun b => b = a ∨ b = cA c i) := by
  intro b hb z
  rcases z with z | z
  · subst z; exact Or.inl ha.2
  · rcases h.arr hi with q | q
    · exact absurd (by rw [← q, ← z]; exact hb) h.nd
    · subst z; exact Or.inr q.2
theorem AL.other {S S2 : PS} {dE a ea b i j : Nat} {L : List Nat} {y : Nat → Nat} {c : CS} (h : AL S dE a ea L) (hq : CQ S y dE c) (hF : Fr S S2 (fun x => x = b ∨ x = cA c i)) (hb : IsAt S 12 b) (hi : i < 56) (hj : j < 56) (ej : ea = cA c j) (n1 : a ≠ b) (n2 : j ≠ i) : AL S2 dE a ea L := by
  refine h.fr hF (fun z => ?_) ?_ hq.nd
  · rcases z with z | z
    · exact n1 z
    · rcases hq.arr hi with q | q
      · exact absurd (by rw [← q, ← z]; exact h.1.1) hq.nd
      · exact (h.1.ne q (by decide)) z
  · rcases hq.ai j i hj hi with z
    by_cases e : ea = dE
    · exact Or.inl e
    · refine Or.inr (fun u => ?_)
      rcases u with u | u
      · rcases h.in21 with v | v
        · exact e v
        · exact (v.ne hb (by decide)) u
      · rcases z (ej.symm.trans u) with v | v
        · exact n2 v
        · exact e (ej.trans v)
theorem CQ.ai2 {S : PS} {y : Nat → Nat} {dE : Nat} {c : CS} (h : CQ S y dE c) {i e : Nat} (hi : i < 56) (he : e = cA c i ∨ e ∉ pL S) : ∀ j k, j < 56 → k < 56 → va_up (cA c) i e j = va_up (cA c) i e k → j = k ∨ va_up (cA c) i e j = dE := by
  rcases he with rfl | he
  · have : va_up (cA c) i (cA c i) = cA c := funext fun x => by by_cases z : x = i <;> simp [va_up, z]
    rw [this]; exact h.ai
  · intro j k hj hk z
    by_cases ej : j = i
    · by_cases ek : k = i
      · exact Or.inl (ej.trans ek.symm)
      · rw [ej, up_same, va_up_ne _ _ ek] at z
        refine Or.inr ?_
        rw [ej, up_same]
        rcases h.arr hk with q | q
        · exact z.trans q
        · exact absurd (by rw [z]; exact q.1) he
    · by_cases ek : k = i
      · rw [ek, up_same, va_up_ne _ _ ej] at z
        refine Or.inr ?_
        rw [va_up_ne _ _ ej]
        rcases h.arr hj with q | q
        · exact q
        · exact absurd (by rw [← z]; exact q.1) he
      · rw [va_up_ne _ _ ej, va_up_ne _ _ ek] at z
        rw [va_up_ne _ _ ej]
        exact h.ai j k hj hk z
theorem CR.hlist {S S2 : PS} {y : Nat → Nat} {dE : Nat} {g : MS} {c : CS} {i e : Nat} {L : List Nat} (h : CR S y dE g c) (hi : i < 48) (hF : Fr S S2 (fun b => b = y (200 + i) ∨ b = cA c i)) (hA : AL S2 dE (y (200 + i)) e (L.map (cH c))) (he : e = cA c i ∨ e ∉ pL S) (hd : dE ∉ pL S2) (hL : ∀ x, x ∈ L → x ∈ cP c i) : CR S2 y dE g (csP c i e L) := by
  have a1 := (h.2.hl i hi).1
  have X := h.1.fr hF (LK_list h.2 (by omega) a1)
  refine ⟨⟨X.lay, X.t0, X.t1, X.gb, X.hb, X.ll, X.ln, X.b1, X.b2, X.b3, X.b4, X.b5, X.d3, X.d4, X.d5, X.d6, X.d7, X.d8, X.a0, X.a1, X.a2, X.a3, X.pc, X.ms, (fun j hj x hx => X.hv j hj x (by
    by_cases z : j = i
    · subst z; rw [show cP (csP c j e L) j = L from up_same _ _ _] at hx; exact hL x hx
    · rw [show cP (csP c i e L) j = cP c j from va_up_ne _ _ z] at hx; exact hx)), X.bv⟩, fun j hj => ?_, fun j hj => ?_, h.2.ai2 (by omega) he, hd⟩
  · show AL S2 dE (y (200 + j)) (va_up (cA c) i e j) ((va_up (cP c) i L j).map (cH c))
    by_cases z : j = i
    · subst z; rw [up_same, up_same]; exact hA
    · rw [va_up_ne _ _ z, va_up_ne _ _ z]
      exact (h.2.hl j hj).other h.2 hF a1 (by omega) (by omega) rfl (fun q => z (by have := h.1.lay.inj _ _ q; omega)) z
  · show AL S2 dE (y (50 + j)) (va_up (cA c) i e (48 + j)) _
    rw [va_up_ne _ _ (by omega)]
    exact (h.2.bl j hj).other h.2 hF a1 (by omega) (j := 48 + j) (by omega) rfl (fun q => absurd (h.1.lay.inj _ _ q) (by omega)) (by omega)
theorem CR.blist {S S2 : PS} {y : Nat → Nat} {dE : Nat} {g : MS} {c : CS} {i e : Nat} {L : List Nat} (h : CR S y dE g c) (hi : i < 8) (hF : Fr S S2 (fun b => b = y (50 + i) ∨ b = cA c (48 + i))) (hA : AL S2 dE (y (50 + i)) e (L.map (cL c))) (he : e = cA c (48 + i) ∨ e ∉ pL S) (hd : dE ∉ pL S2) (hL : ∀ x, x ∈ L → x ∈ cQl c i) : CR S2 y dE g (csQ c i e L) := by
  have a1 := (h.2.bl i hi).1
  have X := h.1.fr hF (LK_list h.2 (by omega) a1)
  refine ⟨⟨X.lay, X.t0, X.t1, X.gb, X.hb, X.ll, X.ln, X.b1, X.b2, X.b3, X.b4, X.b5, X.d3, X.d4, X.d5, X.d6, X.d7, X.d8, X.a0, X.a1, X.a2, X.a3, X.pc, X.ms, X.hv, (fun j hj x hx => X.bv j hj x (by
    by_cases z : j = i
    · subst z; rw [show cQl (csQ c j e L) j = L from up_same _ _ _] at hx; exact hL x hx
    · rw [show cQl (csQ c i e L) j = cQl c j from va_up_ne _ _ z] at hx; exact hx))⟩, fun j hj => ?_, fun j hj => ?_, h.2.ai2 (by omega) he, hd⟩
  · show AL S2 dE (y (200 + j)) (va_up (cA c) (48 + i) e j) _
    rw [va_up_ne _ _ (by omega)]
    exact (h.2.hl j hj).other h.2 hF a1 (by omega) (by omega) rfl (fun q => absurd (h.1.lay.inj _ _ q) (by omega)) (by omega)
  · show AL S2 dE (y (50 + j)) (va_up (cA c) (48 + i) e (48 + j)) ((va_up (cQl c) i L j).map (cL c))
    by_cases z : j = i
    · subst z; rw [up_same, up_same]; exact hA
    · rw [va_up_ne _ _ z, va_up_ne _ _ (by omega)]
      exact (h.2.bl j hj).other h.2 hF a1 (by omega) (j := 48 + j) (by omega) rfl (fun q => z (by have := h.1.lay.inj _ _ q; omega)) (by omega)
theorem map_up {f : Nat → Nat} {h q : Nat} {L : List Nat} (hn : h ∉ L) : L.map (va_up f h q) = L.map f := List.map_congr_left (fun x hx => va_up_ne _ _ (fun e => hn (by rw [← e]; exact hx)))
theorem CR.newh {S : PS} {y : Nat → Nat} {dE : Nat} {g : MS} {c : CS} {h0 q : Nat} (h : CR S y dE g c) (hn : ∀ i, i < 48 → h0 ∉ cP c i) : CR S y dE g (csH c h0 q) := by
  refine ⟨⟨h.1.lay, h.1.t0, h.1.t1, h.1.gb, h.1.hb, h.1.ll, h.1.ln, h.1.b1, h.1.b2, h.1.b3, h.1.b4, h.1.b5, h.1.d3, h.1.d4, h.1.d5, h.1.d6, h.1.d7, h.1.d8, h.1.a0, h.1.a1, h.1.a2, h.1.a3, h.1.pc, h.1.ms, (fun i hi x hx => by rw [show cH (csH c h0 q) x = cH c x from va_up_ne _ _ (fun e => hn i hi (by rw [← e]; exact hx))]; exact h.1.hv i hi x hx), h.1.bv⟩, fun i hi => ?_, h.2.bl, h.2.ai, h.2.nd⟩
  show AL S dE _ _ ((cP c i).map (va_up (cH c) h0 q))
  rw [map_up (hn i hi)]; exact h.2.hl i hi
theorem CR.newl {S : PS} {y : Nat → Nat} {dE : Nat} {g : MS} {c : CS} {h0 q : Nat} (h : CR S y dE g c) (hn : ∀ i, i < 8 → h0 ∉ cQl c i) : CR S y dE g (csL c h0 q) := by
  refine ⟨⟨h.1.lay, h.1.t0, h.1.t1, h.1.gb, h.1.hb, h.1.ll, h.1.ln, h.1.b1, h.1.b2, h.1.b3, h.1.b4, h.1.b5, h.1.d3, h.1.d4, h.1.d5, h.1.d6, h.1.d7, h.1.d8, h.1.a0, h.1.a1, h.1.a2, h.1.a3, h.1.pc, h.1.ms, h.1.hv, (fun i hi x hx => by rw [show cL (csL c h0 q) x = cL c x from va_up_ne _ _ (fun e => hn i hi (by rw [← e]; exact hx))]; exact h.1.bv i hi x hx)⟩, h.2.hl, fun i hi => ?_, h.2.ai, h.2.nd⟩
  show AL S dE _ _ ((cQl c i).map (va_up (cL c) h0 q))
  rw [map_up (hn i hi)]; exact h.2.bl i hi
theorem CR.hadd {S S2 : PS} {y : Nat → Nat} {dE : Nat} {g : MS} {c : CS} {i h0 q : Nat} (h : CR S y dE g c) (hi : i < 48) (hP : ADDP S S2 dE (y (200 + i)) (cA c i) ((cP c i).map (cH c)) q) (hn : ∀ j, j < 48 → h0 ∉ cP c j) (hq : HAt S q h0 g) (hd : dE ∉ pL S2) : ∃ e, CR S2 y dE g (csP (csH c h0 q) i e (cP c i ++ [h0])) := by
  obtain ⟨e, k1, k2, k3, k4⟩ := hP
  refine ⟨e, ?_⟩
  have a1 := (h.2.hl i hi).1
  have N := h.newh (q := q) hn
  have hM := LK_list h.2 (i := i) (by omega) a1
  have X := N.1.fr k4 hM
  have hq2 := hq.fr k4 (hM.no hq.1 (by decide))
  refine ⟨⟨X.lay, X.t0, X.t1, X.gb, X.hb, X.ll, X.ln, X.b1, X.b2, X.b3, X.b4, X.b5, X.d3, X.d4, X.d5, X.d6, X.d7, X.d8, X.a0, X.a1, X.a2, X.a3, X.pc, X.ms, (fun j hj x hx => by
    by_cases z : x = h0
    · subst z; rw [show cH (csP (csH c x q) i e (cP c i ++ [x])) x = q from up_same _ _ _]; exact hq2
    · refine X.hv j hj x ?_
      by_cases z2 : j = i
      · subst z2
        rw [show cP (csP (csH c h0 q) j e (cP c j ++ [h0])) j = cP c j ++ [h0] from up_same _ _ _] at hx
        rcases List.mem_append.mp hx with u | u
        · exact u
        · exact absurd (List.mem_singleton.mp u) z
      · rw [show cP (csP (csH c h0 q) i e (cP c i ++ [h0])) j = cP c j from va_up_ne _ _ z2] at hx; exact hx), X.bv⟩, fun j hj => ?_, fun j hj => ?_, h.2.ai2 (by omega) k2, hd⟩
  · show AL S2 dE (y (200 + j)) (va_up (cA c) i e j) ((va_up (cP c) i (cP c i ++ [h0]) j).map (va_up (cH c) h0 q))
    by_cases z : j = i
    · subst z; rw [up_same, up_same, List.map_append, map_up (hn j hj)]
      show AL S2 dE _ e ((cP c j).map (cH c) ++ [va_up (cH c) h0 q h0])
      rw [up_same]; exact k1
    · rw [va_up_ne _ _ z, va_up_ne _ _ z, map_up (hn j hj)]
      exact (h.2.hl j hj).other h.2 k4 a1 (by omega) (by omega) rfl (fun q => z (by have := h.1.lay.inj _ _ q; omega)) z
  · show AL S2 dE (y (50 + j)) (va_up (cA c) i e (48 + j)) _
    rw [va_up_ne _ _ (by omega)]
    exact (h.2.bl j hj).other h.2 k4 a1 (by omega) (j := 48 + j) (by omega) rfl (fun q => absurd (h.1.lay.inj _ _ q) (by omega)) (by omega)
theorem CR.badd {S S2 : PS} {y : Nat → Nat} {dE : Nat} {g : MS} {c : CS} {i h0 q : Nat} (h : CR S y dE g c) (hi : i < 8) (hP : ADDP S S2 dE (y (50 + i)) (cA c (48 + i)) ((cQl c i).map (cL c)) q) (hn : ∀ j, j < 8 → h0 ∉ cQl c j) (hq : LAt S q h0 g) (hd : dE ∉ pL S2) : ∃ e, CR S2 y dE g (csQ (csL c h0 q) i e (cQl c i ++ [h0])) := by
  obtain ⟨e, k1, k2, k3, k4⟩ := hP
  refine ⟨e, ?_⟩
  have a1 := (h.2.bl i hi).1
  have N := h.newl (q := q) hn
  have hM := LK_list h.2 (i := 48 + i) (by omega) a1
  have X := N.1.fr k4 hM
  have hq2 := hq.fr k4 (hM.no hq.1 (by decide))
  refine ⟨⟨X.lay, X.t0, X.t1, X.gb, X.hb, X.ll, X.ln, X.b1, X.b2, X.b3, X.b4, X.b5, X.d3, X.d4, X.d5, X.d6, X.d7, X.d8, X.a0, X.a1, X.a2, X.a3, X.pc, X.ms, X.hv, (fun j hj x hx => by
    by_cases z : x = h0
    · subst z; rw [show cL (csQ (csL c x q) i e (cQl c i ++ [x])) x = q from up_same _ _ _]; exact hq2
    · refine X.bv j hj x ?_
      by_cases z2 : j = i
      · subst z2
        rw [show cQl (csQ (csL c h0 q) j e (cQl c j ++ [h0])) j = cQl c j ++ [h0] from up_same _ _ _] at hx
        rcases List.mem_append.mp hx with u | u
        · exact u
        · exact absurd (List.mem_singleton.mp u) z
      · rw [show cQl (csQ (csL c h0 q) i e (cQl c i ++ [h0])) j = cQl c j from va_up_ne _ _ z2] at hx; exact hx)⟩, fun j hj => ?_, fun j hj => ?_, h.2.ai2 (by omega) k2, hd⟩
  · show AL S2 dE (y (200 + j)) (va_up (cA c) (48 + i) e j) _
    rw [va_up_ne _ _ (by omega)]
    exact (h.2.hl j hj).other h.2 k4 a1 (by omega) (by omega) rfl (fun q => absurd (h.1.lay.inj _ _ q) (by omega)) (by omega)
  · show AL S2 dE (y (50 + j)) (va_up (cA c) (48 + i) e (48 + j)) ((va_up (cQl c) i (cQl c i ++ [h0]) j).map (va_up (cL c) h0 q))
    by_cases z : j = i
    · subst z; rw [up_same, up_same, List.map_append, map_up (hn j hj)]
      show AL S2 dE _ e ((cQl c j).map (cL c) ++ [va_up (cL c) h0 q h0])
      rw [up_same]; exact k1
    · rw [va_up_ne _ _ z, va_up_ne _ _ (by omega), map_up (hn j hj)]
      exact (h.2.bl j hj).other h.2 k4 a1 (by omega) (j := 48 + j) (by omega) rfl (fun q => z (by have := h.1.lay.inj _ _ q; omega)) (by omega)
