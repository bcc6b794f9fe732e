/-! the whole object -/
def LgK (S : PS) (dE a : Nat) (w : Nat → Nat) (k : Nat) : Prop := IsAt S 10 a ∧ (fR S 1000 a = some (w 0) ∧ RoB S dE (w 0) (fun x => w (1 + x)) 8 48) ∧ (fR S 1002 a = some (w 69) ∧ IsAt S 7 (w 69) ∧ fR S 700 (w 69) = some (w 70) ∧ fI S 701 (w 69) = 0 ∧ IsAt S 20 (w 70) ∧ aN S (w 70) = 300) ∧ (fR S 1001 a = some (w 71) ∧ IsAt S 19 (w 71) ∧ aN S (w 71) = 6) ∧ ∀ j, j < k → aQ S (w 71) j = some (w (72 + 19 * j)) ∧ GaK S dE (w (72 + 19 * j)) j (fun x => w (73 + 19 * j + x)) 8
theorem LgK.fr0 {S S2 : PS} {dE a k : Nat} {w : Nat → Nat} (h : LgK S dE a w k) (hF : Fr0 S S2) : LgK S2 dE a w k := by
  obtain ⟨h0, ⟨h1, h2⟩, ⟨h3, h4, h5, h6, h7, h8⟩, ⟨h9, h10, h11⟩, h12⟩ := h
  obtain ⟨-, -, q3, -⟩ := hF.2 a h0.1 (fun z => z)
  obtain ⟨p1, -, p3, -⟩ := hF.2 _ h4.1 (fun z => z)
  obtain ⟨-, -, -, r1, -⟩ := hF.2 _ h7.1 (fun z => z)
  obtain ⟨-, -, -, s1, -, -, s2⟩ := hF.2 _ h10.1 (fun z => z)
  refine ⟨hF.1 _ _ h0, ⟨(q3 _).trans h1, h2.fr hF (fun _ _ _ _ z => z)⟩, ⟨(q3 _).trans h3, hF.1 _ _ h4, (p3 _).trans h5, (p1 _).trans h6, hF.1 _ _ h7, r1.trans h8⟩, ⟨(q3 _).trans h9, hF.1 _ _ h10, s1.trans h11⟩, fun j hj => ?_⟩
  obtain ⟨a1, a2⟩ := h12 j hj
  exact ⟨(congrFun s2 j).trans a1, a2.fr hF (fun _ _ _ _ z => z)⟩
theorem LgK.congr {S : PS} {dE a k : Nat} {w v : Nat → Nat} (h : LgK S dE a w k) (e : ∀ x, x < 72 + 19 * k → v x = w x) : LgK S dE a v k := by
  obtain ⟨h0, ⟨h1, h2⟩, ⟨h3, h4, h5, h6, h7, h8⟩, ⟨h9, h10, h11⟩, h12⟩ := h
  refine ⟨h0, ⟨by rw [e 0 (by omega)]; exact h1, ?_⟩, ⟨by rw [e 69 (by omega)]; exact h3, by rw [e 69 (by omega)]; exact h4, by rw [e 69 (by omega), e 70 (by omega)]; exact h5, by rw [e 69 (by omega)]; exact h6, by rw [e 70 (by omega)]; exact h7, by rw [e 70 (by omega)]; exact h8⟩, ⟨by rw [e 71 (by omega)]; exact h9, by rw [e 71 (by omega)]; exact h10, by rw [e 71 (by omega)]; exact h11⟩, fun j hj => ?_⟩
  · rw [e 0 (by omega)]
    exact h2.congr (Nat.le_refl _) (Nat.le_refl _) (fun x hx => e (1 + x) (by omega))
  · rw [e 71 (by omega), e (72 + 19 * j) (by omega)]
    obtain ⟨a1, a2⟩ := h12 j hj
    exact ⟨a1, a2.congr (Nat.le_refl _) (fun x hx => e (73 + 19 * j + x) (by omega))⟩
theorem lg_start {S S1 : PS} {dE a q p9 b r : Nat} {u : Nat → Nat} (ha : IsAt S 10 a) (hq : q ∉ pL S) (h1 : RoB S1 dE q u 8 48) (hN : NewW (nO S q 8) S1 u 68) (hF : Fr (nO S q 8) S1 (fun x => x = q)) (hp : p9 ∉ pL S1) (hb : b ∉ pL (nO (sR S1 1000 a (some q)) p9 7)) (hr : r ∉ pL (sR (sR (nA (nO (sR S1 1000 a (some q)) p9 7) b 20 300) 700 p9 (some b)) 1002 a (some p9))) :
    LgK (sR (nA (sR (sR (nA (nO (sR S1 1000 a (some q)) p9 7) b 20 300) 700 p9 (some b)) 1002 a (some p9)) r 19 6) 1001 a (some r)) dE a (catW (catW (catW (catW (fun _ => q) 1 u) 69 (fun _ => p9)) 70 (fun _ => b)) 71 (fun _ => r)) 0 ∧ NewW S (sR (nA (sR (sR (nA (nO (sR S1 1000 a (some q)) p9 7) b 20 300) 700 p9 (some b)) 1002 a (some p9)) r 19 6) 1001 a (some r)) (catW (catW (catW (catW (fun _ => q) 1 u) 69 (fun _ => p9)) 70 (fun _ => b)) 71 (fun _ => r)) 72 ∧ Fr S (sR (nA (sR (sR (nA (nO (sR S1 1000 a (some q)) p9 7) b 20 300) 700 p9 (some b)) 1002 a (some p9)) r 19 6) 1001 a (some r)) (fun x => x = a) := by
  have g0 := Fr0.made hq hF
  have n1 := (NewW.oneO (k := 8) hq).cat hN (nO_ext hq) hF.1
  have A1 := g0.1 _ _ ha
  have f1 : Fr S1 (sR S1 1000 a (some q)) (fun x => x = a) := frR_ Fr.rf
  have hp2 : p9 ∉ pL (sR S1 1000 a (some q)) := hp
  generalize hS2 : sR S1 1000 a (some q) = S2 at *
  have e2 : pL S2 = pL S1 := by rw [← hS2]; rfl
  have A2 : IsAt S2 10 a := f1.1 _ _ A1
  have R2 : RoB S2 dE q u 8 48 := h1.fr f1 (fun kd x hx hk => IsAt.ne hx A1 (by omega))
  have q2 : fR S2 1000 a = some q := by rw [← hS2]; exact sR_s
  have g3 := Fr0.O (k := 7) hp2
  have g4 := Fr0.A (k := 20) (n := 300) hb
  have f5 : Fr (nO S2 p9 7) (sR (nA (nO S2 p9 7) b 20 300) 700 p9 (some b)) (fun x => x = p9) := frR_ (g4.mono (fun _ _ z => z.elim))
  have g5 := Fr0.made hp2 f5
  have K3 : IsAt (sR (nA (nO S2 p9 7) b 20 300) 700 p9 (some b)) 7 p9 := g4.1 _ _ nO_is
  have K4 : IsAt (sR (nA (nO S2 p9 7) b 20 300) 700 p9 (some b)) 20 b := nA_is (k := 20) (n := 300)
  have L4 : aN (sR (nA (nO S2 p9 7) b 20 300) 700 p9 (some b)) b = 300 := nA_aN (k := 20) (n := 300)
  have P3 : fR (sR (nA (nO S2 p9 7) b 20 300) 700 p9 (some b)) 700 p9 = some b := sR_s
  have Z3 : fI (sR (nA (nO S2 p9 7) b 20 300) 700 p9 (some b)) 701 p9 = 0 := nO_fI (k := 7)
  have n5 : NewW S2 (sR (nA (nO S2 p9 7) b 20 300) 700 p9 (some b)) (catW (fun _ => p9) 1 (fun _ => b)) 2 := (NewW.oneO (k := 7) hp2).cat (S2 := nA (nO S2 p9 7) b 20 300) (NewW.oneA (k := 20) (n := 300) hb) (nO_ext hp2) g4.1
  have n5a : NewW S2 (nO S2 p9 7) (fun _ => p9) 1 := NewW.oneO (k := 7) hp2
  have n5b : NewW (nO S2 p9 7) (sR (nA (nO S2 p9 7) b 20 300) 700 p9 (some b)) (fun _ => b) 1 := NewW.oneA (k := 20) (n := 300) hb
  have x5 : Ext (nO S2 p9 7) (sR (nA (nO S2 p9 7) b 20 300) 700 p9 (some b)) := f5.1
  generalize sR (nA (nO S2 p9 7) b 20 300) 700 p9 (some b) = S5 at *
  have A5 := g5.1 _ _ A2
  have R5 := R2.fr g5 (fun _ _ _ _ z => z)
  have q5 : fR S5 1000 a = some q := ((g5.2 a A2.1 (fun z => z)).2.2.1 _).trans q2
  have f6 : Fr S5 (sR S5 1002 a (some p9)) (fun x => x = a) := frR_ Fr.rf
  have g7 := Fr0.A (k := 19) (n := 6) hr
  have f8 : Fr (sR S5 1002 a (some p9)) (sR (nA (sR S5 1002 a (some p9)) r 19 6) 1001 a (some r)) (fun x => x = a) := frR_ (g7.mono (fun _ _ z => z.elim))
  have f68 := f6.go f8
  have no : ∀ kd x, IsAt S5 kd x → kd ≠ 10 → ¬ x = a := fun kd x hx hk => IsAt.ne hx A5 hk
  have R8 := R5.fr f68 (fun kd x hx hk => no kd x hx (by omega))
  obtain ⟨z1, -, z3, -⟩ := f68.2 p9 K3.1 (no 7 _ K3 (by decide))
  obtain ⟨-, -, -, z4, -⟩ := f68.2 b K4.1 (no 20 _ K4 (by decide))
  have m1 : NewW S S2 (catW (fun _ => q) 1 u) 69 := ⟨fun i hi => by rw [e2]; exact n1.1 i hi, n1.2⟩
  have x2 : Ext S S2 := fun k x h => f1.1 _ _ (g0.1 k x h)
  have m2 := m1.cat n5a x2 (nO_ext hp2)
  have m3 := m2.cat n5b (fun k x h => nO_ext hp2 _ _ (x2 k x h)) x5
  have m4 := m3.cat (S2 := nA (sR S5 1002 a (some p9)) r 19 6) (NewW.oneA (S := sR S5 1002 a (some p9)) (k := 19) (n := 6) hr) (fun k x h => x5 _ _ (nO_ext hp2 _ _ (x2 k x h))) g7.1
  refine ⟨⟨f68.1 _ _ A5, ⟨?_, ?_⟩, ⟨?_, f68.1 _ _ K3, (z3 _).trans P3, (z1 _).trans Z3, f68.1 _ _ K4, z4.trans L4⟩, ⟨sR_s, nA_is (k := 19) (n := 6), nA_aN (k := 19) (n := 6)⟩, fun j hj => absurd hj (Nat.not_lt_zero _)⟩, m4, ?_⟩
  · rw [sR_f (by decide)]
    show fR (sR S5 1002 a (some p9)) 1000 a = some q
    rw [sR_f (by decide)]; exact q5
  · refine R8.congr (Nat.le_refl _) (Nat.le_refl _) (fun x hx => ?_)
    show catW (catW (catW (catW (fun _ => q) 1 u) 69 (fun _ => p9)) 70 (fun _ => b)) 71 (fun _ => r) (1 + x) = u x
    rw [catW_l (by omega), catW_l (by omega), catW_l (by omega), catW_r]
  · rw [sR_f (by decide)]
    exact sR_s
  · exact ((g0.mono (fun _ _ z => z.elim)).go (f1.go (g5.mono (fun _ _ z => z.elim)))).go f68
theorem lg_step {S0 S S1 : PS} {dE a k q : Nat} {w u : Nat → Nat} (h : LgK S dE a w k) (hN : NewW S0 S w (72 + 19 * k)) (hF : Fr S0 S (fun x => x = a)) (hk : k < 6) (hq : q ∉ pL S) (h1 : GaK S1 dE q k u 8) (hN1 : NewW (nO S q 3) S1 u 18) (hF1 : Fr (nO S q 3) S1 (fun x => x = q)) :
    LgK (tQ S1 (w 71) k (some q)) dE a (catW w (72 + 19 * k) (catW (fun _ => q) 1 u)) (k + 1) ∧ NewW S0 (tQ S1 (w 71) k (some q)) (catW w (72 + 19 * k) (catW (fun _ => q) 1 u)) (72 + 19 * (k + 1)) ∧ Fr S0 (tQ S1 (w 71) k (some q)) (fun x => x = a) := by
  have g0 := Fr0.made hq hF1
  have n1 := (NewW.oneO (k := 3) hq).cat hN1 (nO_ext hq) hF1.1
  have u71 : w 71 ∉ pL S0 := (hN.1 71 (by omega)).1
  have f2 : Fr S1 (tQ S1 (w 71) k (some q)) (fun x => x = w 71) := Fr.rf.tQ (Or.inl rfl)
  have L1 := (h.fr0 g0).congr (v := catW w (72 + 19 * k) (catW (fun _ => q) 1 u)) (fun x hx => catW_l hx)
  have ew : ∀ x, x < 72 + 19 * k → catW w (72 + 19 * k) (catW (fun _ => q) 1 u) x = w x := fun x hx => catW_l hx
  have n19 : IsAt S1 19 (w 71) := g0.1 _ _ h.2.2.2.1.2.1
  have no : ∀ kd x, IsAt S1 kd x → kd ≠ 19 → ¬ x = w 71 := fun kd x hx hne => IsAt.ne hx n19 hne
  obtain ⟨h0, ⟨h2, h3⟩, ⟨h4, h5, h6, h7, h8, h9⟩, ⟨h10, h11, h12⟩, h13⟩ := L1
  obtain ⟨-, -, q3, -⟩ := f2.2 a h0.1 (no 10 a h0 (by decide))
  obtain ⟨p1, -, p3, -⟩ := f2.2 _ h5.1 (no 7 _ h5 (by decide))
  obtain ⟨-, -, -, r1, -⟩ := f2.2 _ h8.1 (no 20 _ h8 (by decide))
  refine ⟨⟨f2.1 _ _ h0, ⟨(q3 _).trans h2, h3.fr f2 (fun kd x hx hk => no kd x hx (by omega))⟩, ⟨(q3 _).trans h4, f2.1 _ _ h5, (p3 _).trans h6, (p1 _).trans h7, f2.1 _ _ h8, r1.trans h9⟩, ⟨(q3 _).trans h10, f2.1 _ _ h11, h12⟩, fun j hj => ?_⟩, ?_, ?_⟩
  · rw [ew 71 (by omega), tQ_s]
    by_cases e : j = k
    · subst e
      have e1 : catW w (72 + 19 * j) (catW (fun _ => q) 1 u) (72 + 19 * j) = q := by
        have := catW_r (u := w) (v := catW (fun _ => q) 1 u) (m := 72 + 19 * j) (i := 0)
        rw [Nat.add_zero] at this; rw [this]; rfl
      rw [up_same, e1]
      refine ⟨rfl, (h1.fr f2 (fun kd x hx hk => no kd x hx (by omega))).congr (Nat.le_refl _) (fun x hx => ?_)⟩
      rw [show 73 + 19 * j + x = 72 + 19 * j + (1 + x) by omega, catW_r, catW_r]
    · rw [va_up_ne _ _ e]
      obtain ⟨a1, a2⟩ := h13 j (by omega)
      rw [ew 71 (by omega)] at a1
      exact ⟨a1, a2.fr f2 (fun kd x hx hk => no kd x hx (by omega))⟩
  · have := hN.cat (S2 := S1) n1 hF.1 g0.1
    rw [show 72 + 19 * (k + 1) = 72 + 19 * k + (1 + 18) by omega]
    exact this
  · exact (hF.tr g0 (fun _ _ z => z.elim)).tQ (Or.inr u71)
/-- what the constructors need of the start: the classes of arrays -/
def EnvA (s0 : State) : Prop := va_AO "LeaseGates$Account" s0 ∧ va_AO "LeaseGates$Bucket" s0 ∧ va_AO "LeaseGates$Desk" s0 ∧ va_AO "LeaseGates$Gate" s0 ∧ va_AO "LeaseGates$Message" s0 ∧ va_Nw (.methodLinkNest RX10 18 yX7_init "LeaseGates") s0 ∧ va_Nw (.methodLinkNest RX3 11 yX9_init "LeaseGates") s0 ∧ va_Nw (.methodLinkNest RX8 11 yX9_init "LeaseGates") s0 ∧ va_Nw (.methodLinkNest RX8 38 yX1_init "LeaseGates") s0 ∧ va_Nw (.methodLinkNest RX8 39 yX0_init "LeaseGates") s0
section NESTC
variable {p : Program} {l : Launch} {e : Env} {R : Room} {s : State} {m : MethodId} {args : Array Value} {below : List Frame} {meth : Method} {c : Code} {H : Heap} {locs : List Loc} {cells slots : Nat} {Q : State → Prop} {cc : ByteArray} {pc : Nat} {ls : Array Slot} {rest st0 : List Value} {D : va_G} {cy : Nat → ClassId} {B : Nat} {S : PS} {Ts ws : List Cond} {own : String} {s0 : State} {y : MethodName} {rm : Room} {maxL mc ms nL n index : Nat} {bytes : ByteArray} {b : Nat} {As : List Value}
theorem k_callIN {post : PS → Prop} {host : String} (C : Cx p s m args c cc Ts own D cy B s0) (hml : c.maxLocals = nL) (hM : KV l y ws rm D cy B s0 (.ref b :: As) S post mc ms) (cw : va_CN R s args own index y host bytes maxL none ws rm mc ms n ∧ y.name = "<init>" ∧ (Cond.instanceMethod y).before args s = true) (hW : PW D cy B S H) (hS : va_S (Aw B) s.heap H locs) (hB : B ≤ s.heap.size) (hn : As.length = n) (hsz : ls.size = nL) (hst : st0 = As.reverse ++ .ref b :: rest) (hrm : (rest.map fun v => v.category).sum ≤ 8) (hdg : decode cc pc = .ok (.invokespecial index, 3)) (hf : cells + mc ≤ R.cells ∧ slots + ms ≤ R.slots) (kk : ∀ (S1 : PS) (H1 : Heap) (locs1 : List Loc), post S1 → PW D cy B S1 H1 → va_S (Aw B) s.heap H1 locs1 → W p l e R s m args below meth c H1 locs1 (cells + mc) (slots + ms) Q (F0 m (pc + 3) ls (rest))) : W p l e R s m args below meth c H locs cells slots Q (F0 m pc ls st0) := by
  obtain ⟨hx, hb, hts, hown, hK, hEn⟩ := C
  exact va_callv (va_runIN (As := As) (rest := rest) ⟨hx, hb, hml, hown, hts⟩ hM cw ⟨PreW.blind, fun U hU hWm => ⟨rfl, by rw [hU]; exact Nat.le_trans hB hS.1, by rw [hU]; exact hW, va_K.moved hWm.alike hK, by rw [hU]; exact hEn.go hB hS hWm⟩⟩ rfl hn hsz hst (lv_room hrm) hdg hf) hS (fun q _ h => h) (fun q h => h) (fun u t H1 locs1 ht hvm hpost hB1 hz hk hS1 => kk u H1 locs1 hpost (by rw [← ht]; exact hB1.2.1) hS1)
end NESTC
/-! the reference, as it is made -/
def MdK (S0 S : PS) (a : Nat) (t : Nat → Nat) (L : List (Nat × Nat × Nat)) : Prop := IsAt S 11 a ∧ (∀ e ∈ L, fR S (1100 + e.1) a = some (t e.1) ∧ IsAt S e.2.1 (t e.1) ∧ aN S (t e.1) = e.2.2 ∧ (∀ k, aI S (t e.1) k = 0) ∧ ∀ k, aJ S (t e.1) k = 0) ∧ (∀ e ∈ L, t e.1 ∉ pL S0 ∧ t e.1 ∈ pL S) ∧ (∀ e ∈ L, ∀ e2 ∈ L, t e.1 = t e2.1 → e.1 = e2.1) ∧ Fr S0 S (fun x => x = a)
theorem md_start {S : PS} {a : Nat} {t : Nat → Nat} (h : IsAt S 11 a) : MdK S S a t [] := ⟨h, fun e he => absurd he (List.not_mem_nil), fun e he => absurd he (List.not_mem_nil), fun e he => absurd he (List.not_mem_nil), Fr.rf⟩
theorem md_step {S0 S : PS} {a j kd n q : Nat} {t : Nat → Nat} {L : List (Nat × Nat × Nat)} (h : MdK S0 S a t L) (hj : ∀ e ∈ L, e.1 ≠ j) (hq : q ∉ pL S) : MdK S0 (sR (nA S q kd n) (1100 + j) a (some q)) a (va_up t j q) (L ++ [(j, kd, n)]) := by
  obtain ⟨h0, h1, h2, h3, h4⟩ := h
  have g := Fr0.A (k := kd) (n := n) hq
  have f : Fr S (sR (nA S q kd n) (1100 + j) a (some q)) (fun x => x = a) := frR_ (g.mono (fun _ _ z => z.elim))
  have aq : a ≠ q := fun e => hq (by rw [← e]; exact h0.1)
  refine ⟨g.1 _ _ h0, fun e he => ?_, fun e he => ?_, fun e he e2 he2 z => ?_, h4.go f⟩
  · rcases List.mem_append.mp he with u | u
    · rw [va_up_ne _ _ (hj e u)]
      obtain ⟨a1, a2, a3, a4, a5⟩ := h1 e u
      have tq : t e.1 ≠ q := fun z => hq (by rw [← z]; exact a2.1)
      obtain ⟨-, -, -, z1, z2, z3, -⟩ := g.2 _ a2.1 (fun z => z)
      refine ⟨?_, g.1 _ _ a2, z1.trans a3, fun k => (congrFun z2 k).trans (a4 k), fun k => (congrFun z3 k).trans (a5 k)⟩
      rw [sR_f (by have := hj e u; omega)]; exact a1
    · rw [List.mem_singleton.mp u]
      show fR (sR (nA S q kd n) (1100 + j) a (some q)) (1100 + j) a = some (va_up t j q j) ∧ IsAt (nA S q kd n) kd (va_up t j q j) ∧ aN (nA S q kd n) (va_up t j q j) = n ∧ (∀ k, aI (nA S q kd n) (va_up t j q j) k = 0) ∧ ∀ k, aJ (nA S q kd n) (va_up t j q j) k = 0
      rw [up_same]
      exact ⟨sR_s, nA_is, nA_aN, fun k => congrFun nA_aI k, fun k => congrFun nA_aJ k⟩
  · rcases List.mem_append.mp he with u | u
    · rw [va_up_ne _ _ (hj e u)]
      exact ⟨(h2 e u).1, g.1.mem (h2 e u).2⟩
    · rw [List.mem_singleton.mp u]
      show va_up t j q j ∉ pL S0 ∧ va_up t j q j ∈ pL (nA S q kd n)
      rw [up_same]
      exact ⟨fun y => hq (h4.1.mem y), nA_is.1⟩
  · rcases List.mem_append.mp he with u | u
    · rcases List.mem_append.mp he2 with v | v
      · rw [va_up_ne _ _ (hj e u), va_up_ne _ _ (hj e2 v)] at z; exact h3 e u e2 v z
      · have ev := List.mem_singleton.mp v
        subst ev
        rw [va_up_ne _ _ (hj e u)] at z
        change t e.1 = va_up t j q j at z
        rw [up_same] at z
        exact absurd (by rw [← z]; exact (h2 e u).2) hq
    · have eu := List.mem_singleton.mp u
      subst eu
      rcases List.mem_append.mp he2 with v | v
      · rw [va_up_ne _ _ (hj e2 v)] at z
        change va_up t j q j = t e2.1 at z
        rw [up_same] at z
        exact absurd (by rw [z]; exact (h2 e2 v).2) hq
      · rw [List.mem_singleton.mp v]
theorem md_int {S0 S : PS} {a f : Nat} {v : Int32} {t : Nat → Nat} {L : List (Nat × Nat × Nat)} (h : MdK S0 S a t L) : MdK S0 (sI S f a v) a t L := ⟨h.1, h.2.1, h.2.2.1, h.2.2.2.1, frI_ h.2.2.2.2⟩
def gZ : MS := (fun _ _ => 0, fun _ _ => 0, fun f => if f = 1111 then 2000 else 0)
def gA (g : MS) : Nat → MS
  | 0 => g
  | k + 1 => iI (gA g k) 2 k 1000
def gB (g : MS) : Nat → MS
  | 0 => g
  | k + 1 => iI (iI (gB g k) 19 k 1) 13 k (-1)
def g0 : MS := gB (gA gZ 7) 48
theorem inTab_mem : ∀ j, inTab j = true → ∃ e ∈ mTab, e.1 = j := by
  intro j h
  have : j < 34 := by
    unfold inTab at h
    simp at h
    omega
  have key : ∀ j, j < 34 → inTab j = true → mTab.any (fun e => Nat.beq e.1 j) = true := by decide +kernel
  obtain ⟨e, he, h2⟩ := List.any_eq_true.mp (key j this h)
  exact ⟨e, he, Nat.eq_of_beq_eq_true h2⟩
/-- the reference's object, its arrays made -/
theorem md_end {S0 S : PS} {a : Nat} {t : Nat → Nat} (h : MdK S0 S a t mTab) (hf : ∀ f, fI S f a = gZ.2.2 f) : MR S a (fun j => if inTab j then t j else t 1) gZ ∧ (∀ j, (fun j => if inTab j then t j else t 1) j ∉ pL S0) ∧ Fr S0 S (fun x => x = a) := by
  have e1 : ∀ j, inTab j = true → (fun j => if inTab j then t j else t 1) j = t j := fun j hj => if_pos hj
  refine ⟨⟨⟨h.1, fun e he => ?_, fun i j hi hj z => ?_⟩, fun j k hj => ?_, fun j k hj => ?_, hf⟩, fun j => ?_, h.2.2.2.2⟩
  · have hi : inTab e.1 = true := by
      revert e
      decide +kernel
    rw [e1 _ hi]
    obtain ⟨a1, a2, a3, -⟩ := h.2.1 e he
    exact ⟨a1, a2, a3⟩
  · rw [e1 i hi, e1 j hj] at z
    obtain ⟨e, he, rfl⟩ := inTab_mem i hi
    obtain ⟨e2, he2, rfl⟩ := inTab_mem j hj
    exact h.2.2.2.1 e he e2 he2 z
  · rw [e1 j hj]
    obtain ⟨e, he, rfl⟩ := inTab_mem j hj
    exact (h.2.1 e he).2.2.2.1 k
  · rw [e1 j hj]
    obtain ⟨e, he, rfl⟩ := inTab_mem j hj
    exact (h.2.1 e he).2.2.2.2 k
  · by_cases z : inTab j = true
    · rw [e1 j z]
      obtain ⟨e, he, rfl⟩ := inTab_mem j z
      exact (h.2.2.1 e he).1
    · show (if inTab j then t j else t 1) ∉ pL S0
      rw [if_neg z]
      exact (h.2.2.1 (1, 14, 7) (by decide)).1
