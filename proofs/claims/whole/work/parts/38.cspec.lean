/-! what the constructors make -/
/-- the first m addresses of u are new behind S, and stand for themselves -/
def NewW (S S2 : PS) (u : Nat → Nat) (m : Nat) : Prop := (∀ i, i < m → u i ∉ pL S ∧ u i ∈ pL S2) ∧ ∀ i j, i < m → j < m → u i = u j → i = j
def catW (u : Nat → Nat) (m : Nat) (v : Nat → Nat) : Nat → Nat := fun i => if i < m then u i else v (i - m)
theorem catW_l {u v : Nat → Nat} {m i : Nat} (h : i < m) : catW u m v i = u i := if_pos h
theorem catW_r {u v : Nat → Nat} {m i : Nat} : catW u m v (m + i) = v i := by
  unfold catW
  rw [if_neg (by omega), Nat.add_sub_cancel_left]
theorem NewW.none {S : PS} {u : Nat → Nat} : NewW S S u 0 := ⟨fun i h => absurd h (Nat.not_lt_zero _), fun i j h => absurd h (Nat.not_lt_zero _)⟩
theorem NewW.cat {S S1 S2 : PS} {u v : Nat → Nat} {m k : Nat} (h1 : NewW S S1 u m) (h2 : NewW S1 S2 v k) (e1 : Ext S S1) (e2 : Ext S1 S2) : NewW S S2 (catW u m v) (m + k) := by
  refine ⟨fun i hi => ?_, fun i j hi hj e => ?_⟩
  · by_cases z : i < m
    · rw [catW_l z]; exact ⟨(h1.1 i z).1, e2.mem (h1.1 i z).2⟩
    · obtain ⟨x, rfl⟩ : ∃ x, i = m + x := ⟨i - m, by omega⟩
      rw [catW_r]
      have := h2.1 x (by omega)
      exact ⟨fun y => this.1 (e1.mem y), this.2⟩
  · by_cases z : i < m
    · by_cases y : j < m
      · rw [catW_l z, catW_l y] at e; exact h1.2 i j z y e
      · obtain ⟨x, rfl⟩ : ∃ x, j = m + x := ⟨j - m, by omega⟩
        rw [catW_l z, catW_r] at e
        exact absurd (by rw [← e]; exact (h1.1 i z).2) (h2.1 x (by omega)).1
    · obtain ⟨x, rfl⟩ : ∃ x, i = m + x := ⟨i - m, by omega⟩
      by_cases y : j < m
      · rw [catW_l y, catW_r] at e
        exact absurd (by rw [e]; exact (h1.1 j y).2) (h2.1 x (by omega)).1
      · obtain ⟨x2, rfl⟩ : ∃ x2, j = m + x2 := ⟨j - m, by omega⟩
        rw [catW_r, catW_r] at e
        have := h2.2 x x2 (by omega) (by omega) e
        omega
theorem NewW.oneO {S : PS} {q k : Nat} (h : q ∉ pL S) : NewW S (nO S q k) (fun _ => q) 1 := ⟨fun _ _ => ⟨h, nO_is.1⟩, fun i j hi hj _ => by omega⟩
theorem NewW.oneA {S : PS} {q k n : Nat} (h : q ∉ pL S) : NewW S (nA S q k n) (fun _ => q) 1 := ⟨fun _ _ => ⟨h, nA_is.1⟩, fun i j hi hj _ => by omega⟩
/-- as made: all zero -/
def Zr (S : PS) (a : Nat) : Prop := (∀ f, fI S f a = 0) ∧ (∀ f, fJ S f a = 0) ∧ ∀ f, fR S f a = none
theorem Zr.new {S : PS} {q k : Nat} : Zr (nO S q k) q := ⟨fun _ => nO_fI, fun _ => nO_fJ, fun _ => nO_fR⟩
/-- the frame of things that were there: nothing of them has changed -/
abbrev Fr0 (S S2 : PS) : Prop := Fr S S2 (fun _ => False)
theorem Fr0.O {S : PS} {q k : Nat} (h : q ∉ pL S) : Fr0 S (nO S q k) := Fr.rf.nO h
theorem Fr0.A {S : PS} {q k n : Nat} (h : q ∉ pL S) : Fr0 S (nA S q k n) := Fr.rf.nA h
/-- a new object and its constructor: for what was there before nothing has changed -/
theorem Fr0.made {S S2 : PS} {q k : Nat} (h : q ∉ pL S) (hF : Fr (nO S q k) S2 (fun b => b = q)) : Fr0 S S2 := (Fr0.O h).tr hF (fun b hb z => h (by rw [← z]; exact hb))
theorem Zr.fr {S S2 : PS} {a : Nat} {M : Nat → Prop} (h : Zr S a) (hF : Fr S S2 M) (ha : a ∈ pL S) (hM : ¬ M a) : Zr S2 a := by
  obtain ⟨q1, q2, q3, -⟩ := hF.2 a ha hM
  exact ⟨fun f => (q1 f).trans (h.1 f), fun f => (q2 f).trans (h.2.1 f), fun f => (q3 f).trans (h.2.2 f)⟩
theorem frI_ {S S2 : PS} {f a : Nat} {v : Int32} (h : Fr S S2 (fun x => x = a)) : Fr S (sI S2 f a v) (fun x => x = a) := h.sI (Or.inl rfl)
theorem frR_ {S S2 : PS} {f a : Nat} {v : Option Nat} (h : Fr S S2 (fun x => x = a)) : Fr S (sR S2 f a v) (fun x => x = a) := h.sR (Or.inl rfl)
/-! tickers, accounts, lists, buckets, desks -/
def TkA (S : PS) (a : Nat) : Prop := IsAt S 9 a ∧ fJ S 900 a = 0 ∧ fI S 901 a = 1000
def AcA (S : PS) (a : Nat) : Prop := IsAt S 0 a ∧ fI S 0 a = 1 ∧ fI S 1 a = 0 ∧ fI S 2 a = 0 ∧ fR S 3 a = none
def BkA (S : PS) (dE a b : Nat) : Prop := IsAt S 1 a ∧ fR S 100 a = some b ∧ fI S 101 a = 0 ∧ fI S 102 a = 0 ∧ fI S 103 a = 0 ∧ fI S 104 a = 0 ∧ fI S 105 a = 0 ∧ AL S dE b dE []
def DkA (S : PS) (dE a b : Nat) (x1 x2 : Int32) : Prop := IsAt S 2 a ∧ fI S 200 a = x1 ∧ fI S 201 a = x2 ∧ fR S 202 a = some b ∧ fI S 203 a = 0 ∧ fI S 204 a = 0 ∧ fI S 205 a = 0 ∧ fI S 206 a = 0 ∧ fI S 207 a = 0 ∧ fI S 208 a = 0 ∧ AL S dE b dE []
theorem TkA.fr {S S2 : PS} {a : Nat} {M : Nat → Prop} (h : TkA S a) (hF : Fr S S2 M) (hM : ¬ M a) : TkA S2 a := by
  obtain ⟨q1, q2, -⟩ := hF.2 a h.1.1 hM
  exact ⟨hF.1 _ _ h.1, (q2 _).trans h.2.1, (q1 _).trans h.2.2⟩
theorem AcA.fr {S S2 : PS} {a : Nat} {M : Nat → Prop} (h : AcA S a) (hF : Fr S S2 M) (hM : ¬ M a) : AcA S2 a := by
  obtain ⟨q1, q2, q3, -⟩ := hF.2 a h.1.1 hM
  exact ⟨hF.1 _ _ h.1, (q1 _).trans h.2.1, (q1 _).trans h.2.2.1, (q1 _).trans h.2.2.2.1, (q3 _).trans h.2.2.2.2⟩
theorem AL.fr0 {S S2 : PS} {M : Nat → Prop} {dE b : Nat} (h : AL S dE b dE []) (hF : Fr S S2 M) (hM : ¬ M b) : AL S2 dE b dE [] := by
  obtain ⟨q1, q2, q3, -⟩ := hF.2 b h.1.1 hM
  exact ⟨hF.1 _ _ h.1, (q3 _).trans h.2.1, (q1 _).trans h.2.2.1, h.2.2.2.1, Or.inl ⟨rfl, rfl⟩⟩
theorem BkA.fr {S S2 : PS} {dE a b : Nat} {M : Nat → Prop} (h : BkA S dE a b) (hF : Fr S S2 M) (hM : ¬ M a) (hM2 : ¬ M b) : BkA S2 dE a b := by
  obtain ⟨q1, q2, q3, -⟩ := hF.2 a h.1.1 hM
  obtain ⟨h0, h1, h2, h3, h4, h5, h6, h7⟩ := h
  exact ⟨hF.1 _ _ h0, (q3 _).trans h1, (q1 _).trans h2, (q1 _).trans h3, (q1 _).trans h4, (q1 _).trans h5, (q1 _).trans h6, h7.fr0 hF hM2⟩
theorem DkA.fr {S S2 : PS} {dE a b : Nat} {x1 x2 : Int32} {M : Nat → Prop} (h : DkA S dE a b x1 x2) (hF : Fr S S2 M) (hM : ¬ M a) (hM2 : ¬ M b) : DkA S2 dE a b x1 x2 := by
  obtain ⟨q1, q2, q3, -⟩ := hF.2 a h.1.1 hM
  obtain ⟨h0, h1, h2, h3, h4, h5, h6, h7, h8, h9, h10⟩ := h
  exact ⟨hF.1 _ _ h0, (q1 _).trans h1, (q1 _).trans h2, (q3 _).trans h3, (q1 _).trans h4, (q1 _).trans h5, (q1 _).trans h6, (q1 _).trans h7, (q1 _).trans h8, (q1 _).trans h9, h10.fr0 hF hM2⟩
abbrev fLs (S : PS) (b dE : Nat) : PS := sR (sI (nO S b 12) 1200 b 0) 1201 b (some dE)
theorem ls_new {S : PS} {b dE : Nat} (h : b ∉ pL S) : AL (fLs S b dE) dE b dE [] ∧ Fr0 S (fLs S b dE) ∧ NewW S (fLs S b dE) (fun _ => b) 1 := by
  refine ⟨⟨nO_is, sR_s, ?_, Nat.zero_le _, Or.inl ⟨rfl, rfl⟩⟩, ?_, NewW.oneO (k := 12) h⟩
  · show fI (sI (nO S b 12) 1200 b 0) 1202 b = nI 0
    rw [sI_f (by decide)]; exact nO_fI
  · exact Fr0.made h (frR_ (frI_ Fr.rf))
/-- a bucket that was just made -/
theorem bk_new {S : PS} {a b dE : Nat} (ha : a ∉ pL S) (hb : b ∉ pL (nO S a 1)) : BkA (sR (fLs (nO S a 1) b dE) 100 a (some b)) dE a b ∧ Fr0 S (sR (fLs (nO S a 1) b dE) 100 a (some b)) ∧ NewW S (sR (fLs (nO S a 1) b dE) 100 a (some b)) (catW (fun _ => a) 1 (fun _ => b)) 2 := by
  obtain ⟨l1, l2, l3⟩ := ls_new (dE := dE) hb
  have hne : a ≠ b := fun e => hb (by rw [← e]; exact nO_is.1)
  have z := (Zr.new (S := S) (q := a) (k := 1)).fr l2 nO_is.1 (fun z => z)
  have fr : Fr (nO S a 1) (sR (fLs (nO S a 1) b dE) 100 a (some b)) (fun x => x = a) := frR_ (l2.mono (fun _ _ z => z.elim))
  refine ⟨⟨l2.1 _ _ nO_is, sR_s, z.1 101, z.1 102, z.1 103, z.1 104, z.1 105, ?_⟩, Fr0.made ha fr, (NewW.oneO ha).cat (S2 := fLs (nO S a 1) b dE) l3 (nO_ext ha) l2.1⟩
  exact l1.fr0 (M := fun x => x = a) (frR_ Fr.rf) (fun e => hne e.symm)
theorem dk_new {S : PS} {a b dE : Nat} {x1 x2 : Int32} (ha : a ∉ pL S) (hb : b ∉ pL (nO S a 2)) : DkA (sI (sI (sR (fLs (nO S a 2) b dE) 202 a (some b)) 200 a x1) 201 a x2) dE a b x1 x2 ∧ Fr0 S (sI (sI (sR (fLs (nO S a 2) b dE) 202 a (some b)) 200 a x1) 201 a x2) ∧ NewW S (sI (sI (sR (fLs (nO S a 2) b dE) 202 a (some b)) 200 a x1) 201 a x2) (catW (fun _ => a) 1 (fun _ => b)) 2 := by
  obtain ⟨l1, l2, l3⟩ := ls_new (dE := dE) hb
  have hne : a ≠ b := fun e => hb (by rw [← e]; exact nO_is.1)
  have z := (Zr.new (S := S) (q := a) (k := 2)).fr l2 nO_is.1 (fun z => z)
  have f1 : Fr (fLs (nO S a 2) b dE) (sI (sI (sR (fLs (nO S a 2) b dE) 202 a (some b)) 200 a x1) 201 a x2) (fun x => x = a) := frI_ (frI_ (frR_ Fr.rf))
  have fr : Fr (nO S a 2) (sI (sI (sR (fLs (nO S a 2) b dE) 202 a (some b)) 200 a x1) 201 a x2) (fun x => x = a) := (l2.mono (fun _ _ z => z.elim)).go f1
  have o : ∀ f, f ≠ 200 → f ≠ 201 → fI (sI (sI (sR (fLs (nO S a 2) b dE) 202 a (some b)) 200 a x1) 201 a x2) f a = 0 := fun f h1 h2 => by
    rw [sI_f h2, sI_f h1]; exact z.1 f
  refine ⟨⟨l2.1 _ _ nO_is, ?_, sI_s, sR_s, o _ (by decide) (by decide), o _ (by decide) (by decide), o _ (by decide) (by decide), o _ (by decide) (by decide), o _ (by decide) (by decide), o _ (by decide) (by decide), l1.fr0 f1 (fun e => hne e.symm)⟩, Fr0.made ha fr, (NewW.oneO ha).cat (S2 := fLs (nO S a 2) b dE) l3 (nO_ext ha) l2.1⟩
  rw [sI_f (by decide)]; exact sI_s
theorem tk_new {S : PS} {q : Nat} (h : q ∉ pL S) : TkA (sI (nO S q 9) 901 q 1000) q ∧ Fr0 S (sI (nO S q 9) 901 q 1000) ∧ NewW S (sI (nO S q 9) 901 q 1000) (fun _ => q) 1 :=
  ⟨⟨nO_is, nO_fJ (k := 9), sI_s⟩, Fr0.made (k := 9) h (frI_ Fr.rf), NewW.oneO (k := 9) h⟩
theorem ac_new {S : PS} {q : Nat} (h : q ∉ pL S) : AcA (sI (nO S q 0) 0 q 1) q ∧ Fr0 S (sI (nO S q 0) 0 q 1) ∧ NewW S (sI (nO S q 0) 0 q 1) (fun _ => q) 1 :=
  ⟨⟨nO_is, sI_s, (sI_f (by decide)).trans nO_fI, (sI_f (by decide)).trans nO_fI, nO_fR (k := 0)⟩, Fr0.made (k := 0) h (frI_ Fr.rf), NewW.oneO (k := 0) h⟩
/-! a gate -/
def GaK (S : PS) (dE a gt : Nat) (u : Nat → Nat) (k : Nat) : Prop := IsAt S 3 a ∧ fI S 302 a = 0 ∧ fR S 300 a = some (u 0) ∧ TkA S (u 0) ∧ fR S 301 a = some (u 1) ∧ IsAt S 18 (u 1) ∧ aN S (u 1) = 8 ∧ ∀ j, j < k → aQ S (u 1) j = some (u (2 + 2 * j)) ∧ DkA S dE (u (2 + 2 * j)) (u (3 + 2 * j)) (nI gt) (nI j)
theorem GaK.fr {S S2 : PS} {dE a gt k : Nat} {u : Nat → Nat} {M : Nat → Prop} (h : GaK S dE a gt u k) (hF : Fr S S2 M) (hM : ∀ kd b, IsAt S kd b → (kd = 3 ∨ kd = 9 ∨ kd = 18 ∨ kd = 2 ∨ kd = 12) → ¬ M b) : GaK S2 dE a gt u k := by
  obtain ⟨h0, h1, h2, h3, h4, h5, h6, h7⟩ := h
  obtain ⟨q1, q2, q3, -⟩ := hF.2 a h0.1 (hM 3 a h0 (by omega))
  obtain ⟨-, -, -, p1, -, -, p2⟩ := hF.2 (u 1) h5.1 (hM 18 _ h5 (by omega))
  refine ⟨hF.1 _ _ h0, (q1 _).trans h1, (q3 _).trans h2, h3.fr hF (hM 9 _ h3.1 (by omega)), (q3 _).trans h4, hF.1 _ _ h5, p1.trans h6, fun j hj => ?_⟩
  obtain ⟨a1, a2⟩ := h7 j hj
  exact ⟨(congrFun p2 j).trans a1, a2.fr hF (hM 2 _ a2.1 (by omega)) (hM 12 _ a2.2.2.2.2.2.2.2.2.2.2.1 (by omega))⟩
theorem GaK.congr {S : PS} {dE a gt k : Nat} {u v : Nat → Nat} (h : GaK S dE a gt u k) (hk : k ≤ 8) (e : ∀ x, x < 18 → v x = u x) : GaK S dE a gt v k := by
  obtain ⟨h0, h1, h2, h3, h4, h5, h6, h7⟩ := h
  rw [← e 0 (by omega)] at h2 h3
  rw [← e 1 (by omega)] at h4 h5 h6 h7
  refine ⟨h0, h1, h2, h3, h4, h5, h6, fun j hj => ?_⟩
  rw [e (2 + 2 * j) (by omega), e (3 + 2 * j) (by omega)]
  exact h7 j hj
theorem ga_start {S : PS} {dE a gt q r : Nat} (ha : IsAt S 3 a) (hz : Zr S a) (hq : q ∉ pL S) (hr : r ∉ pL (sR (sI (nO S q 9) 901 q 1000) 300 a (some q))) :
    GaK (sR (nA (sR (sI (nO S q 9) 901 q 1000) 300 a (some q)) r 18 8) 301 a (some r)) dE a gt (catW (fun _ => q) 1 (fun _ => r)) 0 ∧ NewW S (sR (nA (sR (sI (nO S q 9) 901 q 1000) 300 a (some q)) r 18 8) 301 a (some r)) (catW (fun _ => q) 1 (fun _ => r)) 2 ∧ Fr S (sR (nA (sR (sI (nO S q 9) 901 q 1000) 300 a (some q)) r 18 8) 301 a (some r)) (fun b => b = a) := by
  obtain ⟨t1, t2, t3⟩ := tk_new hq
  have haq : a ≠ q := fun e => hq (by rw [← e]; exact ha.1)
  have ha1 := t2.1 _ _ ha
  have f1 : Fr (sI (nO S q 9) 901 q 1000) (sR (sI (nO S q 9) 901 q 1000) 300 a (some q)) (fun b => b = a) := frR_ Fr.rf
  have f2 : Fr0 (sR (sI (nO S q 9) 901 q 1000) 300 a (some q)) (nA (sR (sI (nO S q 9) 901 q 1000) 300 a (some q)) r 18 8) := Fr0.A hr
  have f3 : Fr (nA (sR (sI (nO S q 9) 901 q 1000) 300 a (some q)) r 18 8) (sR (nA (sR (sI (nO S q 9) 901 q 1000) 300 a (some q)) r 18 8) 301 a (some r)) (fun b => b = a) := frR_ Fr.rf
  have z1 := hz.fr t2 ha.1 (fun z => z)
  refine ⟨⟨f2.1 _ _ ha1, z1.1 302, ?_, ((t1.fr f1 (fun e => haq e.symm)).fr f2 (fun z => z)).fr f3 (fun e => haq e.symm), sR_s, nA_is (k := 18) (n := 8), nA_aN (k := 18) (n := 8), fun j hj => absurd hj (Nat.not_lt_zero _)⟩, ?_, ?_⟩
  · rw [sR_f (by decide)]; exact sR_s
  · exact t3.cat (S2 := nA (sR (sI (nO S q 9) 901 q 1000) 300 a (some q)) r 18 8) (NewW.oneA (k := 18) (n := 8) hr) t2.1 f2.1
  · exact (((t2.mono (fun _ _ z => z.elim)).go f1).go (f2.mono (fun _ _ z => z.elim))).go f3
theorem ga_step {S0 S : PS} {dE a gt k q b : Nat} {u : Nat → Nat} (h : GaK S dE a gt u k) (hN : NewW S0 S u (2 + 2 * k)) (hF : Fr S0 S (fun x => x = a)) (hk : k < 8) (hq : q ∉ pL S) (hb : b ∉ pL (nO S q 2)) :
    GaK (tQ (sI (sI (sR (fLs (nO S q 2) b dE) 202 q (some b)) 200 q (nI gt)) 201 q (nI k)) (u 1) k (some q)) dE a gt (catW u (2 + 2 * k) (catW (fun _ => q) 1 (fun _ => b))) (k + 1) ∧ NewW S0 (tQ (sI (sI (sR (fLs (nO S q 2) b dE) 202 q (some b)) 200 q (nI gt)) 201 q (nI k)) (u 1) k (some q)) (catW u (2 + 2 * k) (catW (fun _ => q) 1 (fun _ => b))) (2 + 2 * (k + 1)) ∧ Fr S0 (tQ (sI (sI (sR (fLs (nO S q 2) b dE) 202 q (some b)) 200 q (nI gt)) 201 q (nI k)) (u 1) k (some q)) (fun x => x = a) := by
  obtain ⟨d1, d2, d3⟩ := dk_new (dE := dE) (x1 := nI gt) (x2 := nI k) hq hb
  generalize sI (sI (sR (fLs (nO S q 2) b dE) 202 q (some b)) 200 q (nI gt)) 201 q (nI k) = S1 at d1 d2 d3 ⊢
  have g1 := h.fr d2 (fun _ _ _ _ z => z)
  have f2 : Fr S1 (tQ S1 (u 1) k (some q)) (fun x => x = u 1) := Fr.rf.tQ (Or.inl rfl)
  have h18 := g1.2.2.2.2.2.1
  have n2 : ∀ kd x, IsAt S1 kd x → kd ≠ 18 → ¬ x = u 1 := fun kd x hx hne => IsAt.ne hx h18 hne
  have u1 : u 1 ∉ pL S0 := (hN.1 1 (by omega)).1
  have eu : ∀ x, x < 2 + 2 * k → catW u (2 + 2 * k) (catW (fun _ => q) 1 (fun _ => b)) x = u x := fun x hx => catW_l hx
  have eq_ : catW u (2 + 2 * k) (catW (fun _ => q) 1 (fun _ => b)) (2 + 2 * k) = q := by
    have := catW_r (u := u) (v := catW (fun _ => q) 1 (fun _ => b)) (m := 2 + 2 * k) (i := 0)
    rw [Nat.add_zero] at this; rw [this]; rfl
  have eb : catW u (2 + 2 * k) (catW (fun _ => q) 1 (fun _ => b)) (3 + 2 * k) = b := by
    have := catW_r (u := u) (v := catW (fun _ => q) 1 (fun _ => b)) (m := 2 + 2 * k) (i := 1)
    rw [show 3 + 2 * k = 2 + 2 * k + 1 by omega, this]; rfl
  obtain ⟨h0, h1, h2, h3, h4, h5, h6, h7⟩ := g1
  obtain ⟨q1, -, q3, -⟩ := f2.2 a h0.1 (n2 3 a h0 (by decide))
  refine ⟨⟨f2.1 _ _ h0, (q1 _).trans h1, ?_, ?_, ?_, ?_, ?_, fun j hj => ?_⟩, ?_, ?_⟩
  · rw [eu 0 (by omega)]; exact (q3 _).trans h2
  · rw [eu 0 (by omega)]; exact h3.fr f2 (n2 9 _ h3.1 (by decide))
  · rw [eu 1 (by omega)]; exact (q3 _).trans h4
  · rw [eu 1 (by omega)]; exact f2.1 _ _ h5
  · rw [eu 1 (by omega)]; exact h6
  · rw [eu 1 (by omega), tQ_s]
    by_cases e : j = k
    · subst e
      rw [up_same, eq_, eb]
      exact ⟨rfl, d1.fr f2 (n2 2 _ d1.1 (by decide)) (n2 12 _ d1.2.2.2.2.2.2.2.2.2.2.1 (by decide))⟩
    · rw [va_up_ne _ _ e, eu (2 + 2 * j) (by omega), eu (3 + 2 * j) (by omega)]
      obtain ⟨a1, a2⟩ := h7 j (by omega)
      exact ⟨a1, a2.fr f2 (n2 2 _ a2.1 (by decide)) (n2 12 _ a2.2.2.2.2.2.2.2.2.2.2.1 (by decide))⟩
  · have := hN.cat (S2 := S1) d3 hF.1 d2.1
    rw [show 2 + 2 * (k + 1) = 2 + 2 * k + 2 by omega]
    exact this
  · exact (hF.tr d2 (fun _ _ z => z.elim)).tQ (Or.inr u1)
/-! the root -/
def RoB (S : PS) (dE a : Nat) (u : Nat → Nat) (k m : Nat) : Prop := (IsAt S 8 a ∧ fI S 804 a = 2000 ∧ fI S 805 a = 0) ∧ (fR S 800 a = some (u 0) ∧ TkA S (u 0)) ∧ (fR S 801 a = some (u 1) ∧ IsAt S 17 (u 1) ∧ aN S (u 1) = 8) ∧ (fR S 802 a = some (u 2) ∧ IsAt S 16 (u 2) ∧ aN S (u 2) = 48) ∧ (fR S 803 a = some (u 3) ∧ IsAt S 13 (u 3) ∧ aN S (u 3) = 6 ∧ ∀ i, aI S (u 3) i = 0) ∧ (∀ j, j < k → aQ S (u 1) j = some (u (4 + 2 * j)) ∧ BkA S dE (u (4 + 2 * j)) (u (5 + 2 * j))) ∧ ∀ j, j < m → aQ S (u 2) j = some (u (20 + j)) ∧ AcA S (u (20 + j))
theorem RoB.fr {S S2 : PS} {dE a k m : Nat} {u : Nat → Nat} {M : Nat → Prop} (h : RoB S dE a u k m) (hF : Fr S S2 M) (hM : ∀ kd b, IsAt S kd b → (kd = 8 ∨ kd = 9 ∨ kd = 17 ∨ kd = 16 ∨ kd = 13 ∨ kd = 1 ∨ kd = 12 ∨ kd = 0) → ¬ M b) : RoB S2 dE a u k m := by
  obtain ⟨⟨h0, h1, h2⟩, ⟨h3, h4⟩, ⟨h5, h6, h7⟩, ⟨h8, h9, h10⟩, ⟨h11, h12, h13, h14⟩, h15, h16⟩ := h
  obtain ⟨q1, q2, q3, -⟩ := hF.2 a h0.1 (hM 8 a h0 (by omega))
  obtain ⟨-, -, -, p1, -, -, p2⟩ := hF.2 (u 1) h6.1 (hM 17 _ h6 (by omega))
  obtain ⟨-, -, -, r1, -, -, r2⟩ := hF.2 (u 2) h9.1 (hM 16 _ h9 (by omega))
  obtain ⟨-, -, -, s1, s2, -, -⟩ := hF.2 (u 3) h12.1 (hM 13 _ h12 (by omega))
  refine ⟨⟨hF.1 _ _ h0, (q1 _).trans h1, (q1 _).trans h2⟩, ⟨(q3 _).trans h3, h4.fr hF (hM 9 _ h4.1 (by omega))⟩, ⟨(q3 _).trans h5, hF.1 _ _ h6, p1.trans h7⟩, ⟨(q3 _).trans h8, hF.1 _ _ h9, r1.trans h10⟩, ⟨(q3 _).trans h11, hF.1 _ _ h12, s1.trans h13, fun i => (congrFun s2 i).trans (h14 i)⟩, fun j hj => ?_, fun j hj => ?_⟩
  · obtain ⟨a1, a2⟩ := h15 j hj
    exact ⟨(congrFun p2 j).trans a1, a2.fr hF (hM 1 _ a2.1 (by omega)) (hM 12 _ a2.2.2.2.2.2.2.2.1 (by omega))⟩
  · obtain ⟨a1, a2⟩ := h16 j hj
    exact ⟨(congrFun r2 j).trans a1, a2.fr hF (hM 0 _ a2.1 (by omega))⟩
theorem RoB.congr {S : PS} {dE a k m : Nat} {u v : Nat → Nat} (h : RoB S dE a u k m) (hk : k ≤ 8) (hm : m ≤ 48) (e : ∀ x, x < 4 + 2 * k ∨ (20 ≤ x ∧ x < 20 + m) → v x = u x) : RoB S dE a v k m := by
  obtain ⟨h0, ⟨h3, h4⟩, ⟨h5, h6, h7⟩, ⟨h8, h9, h10⟩, ⟨h11, h12, h13, h14⟩, h15, h16⟩ := h
  rw [← e 0 (by omega)] at h3 h4
  rw [← e 1 (by omega)] at h5 h6 h7 h15
  rw [← e 2 (by omega)] at h8 h9 h10 h16
  rw [← e 3 (by omega)] at h11 h12 h13 h14
  refine ⟨h0, ⟨h3, h4⟩, ⟨h5, h6, h7⟩, ⟨h8, h9, h10⟩, ⟨h11, h12, h13, h14⟩, fun j hj => ?_, fun j hj => ?_⟩
  · rw [e (4 + 2 * j) (by omega), e (5 + 2 * j) (by omega)]; exact h15 j hj
  · rw [e (20 + j) (by omega)]; exact h16 j hj
abbrev rS2 (S : PS) (a q : Nat) : PS := sR (sI (nO S q 9) 901 q 1000) 800 a (some q)
abbrev rS4 (S : PS) (a q r1 : Nat) : PS := sR (nA (rS2 S a q) r1 17 8) 801 a (some r1)
abbrev rS6 (S : PS) (a q r1 r2 : Nat) : PS := sR (nA (rS4 S a q r1) r2 16 48) 802 a (some r2)
abbrev rS8 (S : PS) (a q r1 r2 r3 : Nat) : PS := sR (nA (rS6 S a q r1 r2) r3 13 6) 803 a (some r3)
abbrev rS9 (S : PS) (a q r1 r2 r3 : Nat) : PS := sI (rS8 S a q r1 r2 r3) 804 a 2000
abbrev rU (q r1 r2 r3 : Nat) : Nat → Nat := catW (catW (catW (fun _ => q) 1 (fun _ => r1)) 2 (fun _ => r2)) 3 (fun _ => r3)
theorem ro_start {S : PS} {dE a q r1 r2 r3 : Nat} (ha : IsAt S 8 a) (hz : Zr S a) (hq : q ∉ pL S) (h1 : r1 ∉ pL (rS2 S a q)) (h2 : r2 ∉ pL (rS4 S a q r1)) (h3 : r3 ∉ pL (rS6 S a q r1 r2)) : RoB (rS9 S a q r1 r2 r3) dE a (rU q r1 r2 r3) 0 0 ∧ NewW S (rS9 S a q r1 r2 r3) (rU q r1 r2 r3) 4 ∧ Fr S (rS9 S a q r1 r2 r3) (fun b => b = a) := by
  obtain ⟨t1, t2, t3⟩ := tk_new hq
  have a1 := t2.1 _ _ ha
  have f2 : Fr S (rS2 S a q) (fun b => b = a) := frR_ (t2.mono (fun _ _ z => z.elim))
  have g1 := Fr0.A (k := 17) (n := 8) h1
  have f4 : Fr (rS2 S a q) (rS4 S a q r1) (fun b => b = a) := frR_ (g1.mono (fun _ _ z => z.elim))
  have g2 := Fr0.A (k := 16) (n := 48) h2
  have f6 : Fr (rS4 S a q r1) (rS6 S a q r1 r2) (fun b => b = a) := frR_ (g2.mono (fun _ _ z => z.elim))
  have g3 := Fr0.A (k := 13) (n := 6) h3
  have f8 : Fr (rS6 S a q r1 r2) (rS9 S a q r1 r2 r3) (fun b => b = a) := frI_ (frR_ (g3.mono (fun _ _ z => z.elim)))
  have A2 : IsAt (rS2 S a q) 8 a := a1
  have A4 : IsAt (rS4 S a q r1) 8 a := g1.1 _ _ A2
  have A6 : IsAt (rS6 S a q r1 r2) 8 a := g2.1 _ _ A4
  have A9 : IsAt (rS9 S a q r1 r2 r3) 8 a := g3.1 _ _ A6
  have K1 : IsAt (rS4 S a q r1) 17 r1 := nA_is (k := 17) (n := 8)
  have K2 : IsAt (rS6 S a q r1 r2) 16 r2 := nA_is (k := 16) (n := 48)
  have K3 : IsAt (rS9 S a q r1 r2 r3) 13 r3 := nA_is (k := 13) (n := 6)
  have T2 : TkA (rS2 S a q) q := t1.fr (M := fun b => b = a) (frR_ Fr.rf) (IsAt.ne t1.1 a1 (by decide))
  have T4 := T2.fr f4 (IsAt.ne T2.1 A2 (by decide))
  have T6 := T4.fr f6 (IsAt.ne T4.1 A4 (by decide))
  have T9 := T6.fr f8 (IsAt.ne T6.1 A6 (by decide))
  have N1 : aN (rS4 S a q r1) r1 = 8 := nA_aN (k := 17) (n := 8)
  have N1b := ((f6.2 r1 K1.1 (IsAt.ne K1 A4 (by decide))).2.2.2.1).trans N1
  have K1b := f6.1 _ _ K1
  have N1c := ((f8.2 r1 K1b.1 (IsAt.ne K1b A6 (by decide))).2.2.2.1).trans N1b
  have N2 : aN (rS6 S a q r1 r2) r2 = 48 := nA_aN (k := 16) (n := 48)
  have N2b := ((f8.2 r2 K2.1 (IsAt.ne K2 A6 (by decide))).2.2.2.1).trans N2
  have z1 := hz.fr t2 ha.1 (fun z => z)
  refine ⟨⟨⟨A9, sI_s, ?_⟩, ⟨?_, T9⟩, ⟨?_, f8.1 _ _ K1b, N1c⟩, ⟨?_, f8.1 _ _ K2, N2b⟩, ⟨?_, K3, nA_aN (k := 13) (n := 6), fun i => congrFun (nA_aI (k := 13) (n := 6)) i⟩, fun j hj => absurd hj (Nat.not_lt_zero _), fun j hj => absurd hj (Nat.not_lt_zero _)⟩, ?_, ?_⟩
  · rw [sI_f (by decide)]; exact z1.1 805
  · show fR (rS8 S a q r1 r2 r3) 800 a = some q
    rw [sR_f (by decide)]
    show fR (rS6 S a q r1 r2) 800 a = some q
    rw [sR_f (by decide)]
    show fR (rS4 S a q r1) 800 a = some q
    rw [sR_f (by decide)]; exact sR_s
  · show fR (rS8 S a q r1 r2 r3) 801 a = some r1
    rw [sR_f (by decide)]
    show fR (rS6 S a q r1 r2) 801 a = some r1
    rw [sR_f (by decide)]; exact sR_s
  · show fR (rS8 S a q r1 r2 r3) 802 a = some r2
    rw [sR_f (by decide)]; exact sR_s
  · show fR (rS8 S a q r1 r2 r3) 803 a = some r3
    exact sR_s
  · have n2 := t3.cat (S2 := rS4 S a q r1) (NewW.oneA (k := 17) (n := 8) h1) t2.1 g1.1
    have n3 := n2.cat (S2 := rS6 S a q r1 r2) (NewW.oneA (k := 16) (n := 48) h2) (fun k b h => g1.1 _ _ (t2.1 k b h)) g2.1
    exact n3.cat (S2 := rS9 S a q r1 r2 r3) (NewW.oneA (k := 13) (n := 6) h3) (fun k b h => g2.1 _ _ (g1.1 _ _ (t2.1 k b h))) g3.1
  · exact ((f2.go f4).go f6).go f8
theorem ro_bk {S0 S : PS} {dE a k q b : Nat} {u : Nat → Nat} (h : RoB S dE a u k 0) (hN : NewW S0 S u (4 + 2 * k)) (hF : Fr S0 S (fun x => x = a)) (hk : k < 8) (hq : q ∉ pL S) (hb : b ∉ pL (nO S q 1)) :
    RoB (tQ (sR (fLs (nO S q 1) b dE) 100 q (some b)) (u 1) k (some q)) dE a (catW u (4 + 2 * k) (catW (fun _ => q) 1 (fun _ => b))) (k + 1) 0 ∧ NewW S0 (tQ (sR (fLs (nO S q 1) b dE) 100 q (some b)) (u 1) k (some q)) (catW u (4 + 2 * k) (catW (fun _ => q) 1 (fun _ => b))) (4 + 2 * (k + 1)) ∧ Fr S0 (tQ (sR (fLs (nO S q 1) b dE) 100 q (some b)) (u 1) k (some q)) (fun x => x = a) := by
  obtain ⟨d1, d2, d3⟩ := bk_new (dE := dE) hq hb
  generalize sR (fLs (nO S q 1) b dE) 100 q (some b) = S1 at d1 d2 d3 ⊢
  have eu : ∀ x, x < 4 + 2 * k → catW u (4 + 2 * k) (catW (fun _ => q) 1 (fun _ => b)) x = u x := fun x hx => catW_l hx
  have eq_ : catW u (4 + 2 * k) (catW (fun _ => q) 1 (fun _ => b)) (4 + 2 * k) = q := by
    have := catW_r (u := u) (v := catW (fun _ => q) 1 (fun _ => b)) (m := 4 + 2 * k) (i := 0)
    rw [Nat.add_zero] at this; rw [this]; rfl
  have eb : catW u (4 + 2 * k) (catW (fun _ => q) 1 (fun _ => b)) (5 + 2 * k) = b := by
    have := catW_r (u := u) (v := catW (fun _ => q) 1 (fun _ => b)) (m := 4 + 2 * k) (i := 1)
    rw [show 5 + 2 * k = 4 + 2 * k + 1 by omega, this]; rfl
  have u1 : u 1 ∉ pL S0 := (hN.1 1 (by omega)).1
  have g1 := (h.fr d2 (fun _ _ _ _ z => z)).congr (by omega) (by omega) (v := catW u (4 + 2 * k) (catW (fun _ => q) 1 (fun _ => b))) (fun x hx => eu x (by omega))
  have f2 : Fr S1 (tQ S1 (u 1) k (some q)) (fun x => x = u 1) := Fr.rf.tQ (Or.inl rfl)
  have n17 : IsAt S1 17 (u 1) := d2.1 _ _ h.2.2.1.2.1
  have n2 : ∀ kd x, IsAt S1 kd x → kd ≠ 17 → ¬ x = u 1 := fun kd x hx hne => IsAt.ne hx n17 hne
  obtain ⟨⟨h0, h1, h2⟩, ⟨h3, h4⟩, ⟨h5, h6, h7⟩, ⟨h8, h9, h10⟩, ⟨h11, h12, h13, h14⟩, h15, h16⟩ := g1
  obtain ⟨q1, -, q3, -⟩ := f2.2 a h0.1 (n2 8 a h0 (by decide))
  obtain ⟨-, -, -, r1, -, -, r2⟩ := f2.2 _ h9.1 (n2 16 _ h9 (by decide))
  obtain ⟨-, -, -, s1, s2, -, -⟩ := f2.2 _ h12.1 (n2 13 _ h12 (by decide))
  refine ⟨⟨⟨f2.1 _ _ h0, (q1 _).trans h1, (q1 _).trans h2⟩, ⟨(q3 _).trans h3, h4.fr f2 (n2 9 _ h4.1 (by decide))⟩, ⟨(q3 _).trans h5, f2.1 _ _ h6, h7⟩, ⟨(q3 _).trans h8, f2.1 _ _ h9, r1.trans h10⟩, ⟨(q3 _).trans h11, f2.1 _ _ h12, s1.trans h13, fun i => (congrFun s2 i).trans (h14 i)⟩, fun j hj => ?_, fun j hj => absurd hj (Nat.not_lt_zero _)⟩, ?_, ?_⟩
  · rw [eu 1 (by omega), tQ_s]
    by_cases e : j = k
    · subst e
      rw [up_same, eq_, eb]
      exact ⟨rfl, d1.fr f2 (n2 1 _ d1.1 (by decide)) (n2 12 _ d1.2.2.2.2.2.2.2.1 (by decide))⟩
    · rw [va_up_ne _ _ e]
      obtain ⟨a1, a2⟩ := h15 j (by omega)
      rw [eu 1 (by omega)] at a1
      exact ⟨a1, a2.fr f2 (n2 1 _ a2.1 (by decide)) (n2 12 _ a2.2.2.2.2.2.2.2.1 (by decide))⟩
  · have := hN.cat (S2 := S1) d3 hF.1 d2.1
    rw [show 4 + 2 * (k + 1) = 4 + 2 * k + 2 by omega]
    exact this
  · exact (hF.tr d2 (fun _ _ z => z.elim)).tQ (Or.inr u1)
theorem ro_ac {S0 S : PS} {dE a k q : Nat} {u : Nat → Nat} (h : RoB S dE a u 8 k) (hN : NewW S0 S u (20 + k)) (hF : Fr S0 S (fun x => x = a)) (hk : k < 48) (hq : q ∉ pL S) :
    RoB (tQ (sI (nO S q 0) 0 q 1) (u 2) k (some q)) dE a (catW u (20 + k) (fun _ => q)) 8 (k + 1) ∧ NewW S0 (tQ (sI (nO S q 0) 0 q 1) (u 2) k (some q)) (catW u (20 + k) (fun _ => q)) (20 + (k + 1)) ∧ Fr S0 (tQ (sI (nO S q 0) 0 q 1) (u 2) k (some q)) (fun x => x = a) := by
  obtain ⟨d1, d2, d3⟩ := ac_new hq
  generalize sI (nO S q 0) 0 q 1 = S1 at d1 d2 d3 ⊢
  have eu : ∀ x, x < 20 + k → catW u (20 + k) (fun _ => q) x = u x := fun x hx => catW_l hx
  have eq_ : catW u (20 + k) (fun _ => q) (20 + k) = q := by
    have := catW_r (u := u) (v := fun _ => q) (m := 20 + k) (i := 0)
    rw [Nat.add_zero] at this; exact this
  have u1 : u 2 ∉ pL S0 := (hN.1 2 (by omega)).1
  have g1 := (h.fr d2 (fun _ _ _ _ z => z)).congr (by omega) (by omega) (v := catW u (20 + k) (fun _ => q)) (fun x hx => eu x (by omega))
  have f2 : Fr S1 (tQ S1 (u 2) k (some q)) (fun x => x = u 2) := Fr.rf.tQ (Or.inl rfl)
  have n16 : IsAt S1 16 (u 2) := d2.1 _ _ h.2.2.2.1.2.1
  have n2 : ∀ kd x, IsAt S1 kd x → kd ≠ 16 → ¬ x = u 2 := fun kd x hx hne => IsAt.ne hx n16 hne
  obtain ⟨⟨h0, h1, h2⟩, ⟨h3, h4⟩, ⟨h5, h6, h7⟩, ⟨h8, h9, h10⟩, ⟨h11, h12, h13, h14⟩, h15, h16⟩ := g1
  obtain ⟨q1, -, q3, -⟩ := f2.2 a h0.1 (n2 8 a h0 (by decide))
  obtain ⟨-, -, -, r1, -, -, r2⟩ := f2.2 _ h6.1 (n2 17 _ h6 (by decide))
  obtain ⟨-, -, -, s1, s2, -, -⟩ := f2.2 _ h12.1 (n2 13 _ h12 (by decide))
  refine ⟨⟨⟨f2.1 _ _ h0, (q1 _).trans h1, (q1 _).trans h2⟩, ⟨(q3 _).trans h3, h4.fr f2 (n2 9 _ h4.1 (by decide))⟩, ⟨(q3 _).trans h5, f2.1 _ _ h6, r1.trans h7⟩, ⟨(q3 _).trans h8, f2.1 _ _ h9, h10⟩, ⟨(q3 _).trans h11, f2.1 _ _ h12, s1.trans h13, fun i => (congrFun s2 i).trans (h14 i)⟩, fun j hj => ?_, fun j hj => ?_⟩, ?_, ?_⟩
  · obtain ⟨a1, a2⟩ := h15 j hj
    exact ⟨(congrFun r2 j).trans a1, a2.fr f2 (n2 1 _ a2.1 (by decide)) (n2 12 _ a2.2.2.2.2.2.2.2.1 (by decide))⟩
  · rw [eu 2 (by omega), tQ_s]
    by_cases e : j = k
    · subst e
      rw [up_same, eq_]
      exact ⟨rfl, d1.fr f2 (n2 0 _ d1.1 (by decide))⟩
    · rw [va_up_ne _ _ e]
      obtain ⟨a1, a2⟩ := h16 j (by omega)
      rw [eu 2 (by omega)] at a1
      exact ⟨a1, a2.fr f2 (n2 0 _ a2.1 (by decide))⟩
  · have := hN.cat (S2 := S1) d3 hF.1 d2.1
    rw [show 20 + (k + 1) = 20 + k + 1 by omega]
    exact this
  · exact (hF.tr d2 (fun _ _ z => z.elim)).tQ (Or.inr u1)
