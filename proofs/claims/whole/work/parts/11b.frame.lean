/-- S2 is S but for the addresses in M and for what is new -/
def Fr (S S2 : PS) (M : Nat → Prop) : Prop := Ext S S2 ∧ ∀ b, b ∈ pL S → ¬ M b → (∀ f, fI S2 f b = fI S f b) ∧ (∀ f, fJ S2 f b = fJ S f b) ∧ (∀ f, fR S2 f b = fR S f b) ∧ aN S2 b = aN S b ∧ aI S2 b = aI S b ∧ aJ S2 b = aJ S b ∧ aQ S2 b = aQ S b
theorem Fr.rf {S : PS} {M : Nat → Prop} : Fr S S M := ⟨Ext.rf, fun _ _ _ => ⟨fun _ => rfl, fun _ => rfl, fun _ => rfl, rfl, rfl, rfl, rfl⟩⟩
theorem Ext.mem {S T : PS} (h : Ext S T) {b : Nat} (hb : b ∈ pL S) : b ∈ pL T := (h (pK S b) b ⟨hb, rfl⟩).1
theorem Fr.tr {S S2 S3 : PS} {M M2 : Nat → Prop} (h : Fr S S2 M) (k : Fr S2 S3 M2) (hm : ∀ b, b ∈ pL S → M2 b → M b) : Fr S S3 M := by
  refine ⟨h.1.tr k.1, fun b hb hn => ?_⟩
  obtain ⟨a1, a2, a3, a4, a5, a6, a7⟩ := h.2 b hb hn
  obtain ⟨b1, b2, b3, b4, b5, b6, b7⟩ := k.2 b (h.1.mem hb) (fun z => hn (hm b hb z))
  exact ⟨fun f => (b1 f).trans (a1 f), fun f => (b2 f).trans (a2 f), fun f => (b3 f).trans (a3 f), b4.trans a4, b5.trans a5, b6.trans a6, b7.trans a7⟩
theorem Fr.go {S S2 S3 : PS} {M : Nat → Prop} (h : Fr S S2 M) (k : Fr S2 S3 M) : Fr S S3 M := h.tr k (fun _ _ z => z)
theorem Fr.mono {S S2 : PS} {M M2 : Nat → Prop} (h : Fr S S2 M) (hm : ∀ b, b ∈ pL S → M b → M2 b) : Fr S S2 M2 := ⟨h.1, fun b hb hn => h.2 b hb (fun z => hn (hm b hb z))⟩
/-- a may be written: it is in M, or it is new -/
abbrev Wr (S : PS) (M : Nat → Prop) (a : Nat) : Prop := M a ∨ a ∉ pL S
theorem Wr.ne {S : PS} {M : Nat → Prop} {a b : Nat} (h : Wr S M a) (hb : b ∈ pL S) (hn : ¬ M b) : b ≠ a := fun e => h.elim (fun z => hn (by rw [e]; exact z)) (fun z => z (by rw [← e]; exact hb))
theorem Fr.sI {S S2 : PS} {M : Nat → Prop} {f a : Nat} {v : Int32} (h : Fr S S2 M) (z : Wr S M a) : Fr S (sI S2 f a v) M := by
  refine ⟨h.1.tr sI_ext, fun b hb hn => ?_⟩
  obtain ⟨a1, a2, a3, a4, a5, a6, a7⟩ := h.2 b hb hn
  exact ⟨fun f => (sI_a (z.ne hb hn)).trans (a1 f), a2, a3, a4, a5, a6, a7⟩
theorem Fr.sJ {S S2 : PS} {M : Nat → Prop} {f a : Nat} {v : Int64} (h : Fr S S2 M) (z : Wr S M a) : Fr S (sJ S2 f a v) M := by
  refine ⟨h.1.tr sJ_ext, fun b hb hn => ?_⟩
  obtain ⟨a1, a2, a3, a4, a5, a6, a7⟩ := h.2 b hb hn
  exact ⟨a1, fun f => (sJ_a (z.ne hb hn)).trans (a2 f), a3, a4, a5, a6, a7⟩
theorem Fr.sR {S S2 : PS} {M : Nat → Prop} {f a : Nat} {v : Option Nat} (h : Fr S S2 M) (z : Wr S M a) : Fr S (sR S2 f a v) M := by
  refine ⟨h.1.tr sR_ext, fun b hb hn => ?_⟩
  obtain ⟨a1, a2, a3, a4, a5, a6, a7⟩ := h.2 b hb hn
  exact ⟨a1, a2, fun f => (sR_a (z.ne hb hn)).trans (a3 f), a4, a5, a6, a7⟩
theorem Fr.tI {S S2 : PS} {M : Nat → Prop} {a i : Nat} {v : Int32} (h : Fr S S2 M) (z : Wr S M a) : Fr S (tI S2 a i v) M := by
  refine ⟨h.1.tr tI_ext, fun b hb hn => ?_⟩
  obtain ⟨a1, a2, a3, a4, a5, a6, a7⟩ := h.2 b hb hn
  exact ⟨a1, a2, a3, a4, (tI_a (z.ne hb hn)).trans a5, a6, a7⟩
theorem Fr.tJ {S S2 : PS} {M : Nat → Prop} {a i : Nat} {v : Int64} (h : Fr S S2 M) (z : Wr S M a) : Fr S (tJ S2 a i v) M := by
  refine ⟨h.1.tr tJ_ext, fun b hb hn => ?_⟩
  obtain ⟨a1, a2, a3, a4, a5, a6, a7⟩ := h.2 b hb hn
  exact ⟨a1, a2, a3, a4, a5, (tJ_a (z.ne hb hn)).trans a6, a7⟩
theorem Fr.tQ {S S2 : PS} {M : Nat → Prop} {a i : Nat} {v : Option Nat} (h : Fr S S2 M) (z : Wr S M a) : Fr S (tQ S2 a i v) M := by
  refine ⟨h.1.tr tQ_ext, fun b hb hn => ?_⟩
  obtain ⟨a1, a2, a3, a4, a5, a6, a7⟩ := h.2 b hb hn
  exact ⟨a1, a2, a3, a4, a5, a6, (tQ_a (z.ne hb hn)).trans a7⟩
theorem Fr.nO {S S2 : PS} {M : Nat → Prop} {q k : Nat} (h : Fr S S2 M) (hq : q ∉ pL S2) : Fr S (nO S2 q k) M := by
  refine ⟨h.1.tr (nO_ext hq), fun b hb hn => ?_⟩
  obtain ⟨a1, a2, a3, a4, a5, a6, a7⟩ := h.2 b hb hn
  have e : b ≠ q := fun z => hq (by rw [← z]; exact h.1.mem hb)
  exact ⟨fun f => (nO_fIa e).trans (a1 f), fun f => (nO_fJa e).trans (a2 f), fun f => (nO_fRa e).trans (a3 f), a4, a5, a6, a7⟩
theorem Fr.nA {S S2 : PS} {M : Nat → Prop} {q k n : Nat} (h : Fr S S2 M) (hq : q ∉ pL S2) : Fr S (nA S2 q k n) M := by
  refine ⟨h.1.tr (nA_ext hq), fun b hb hn => ?_⟩
  obtain ⟨a1, a2, a3, a4, a5, a6, a7⟩ := h.2 b hb hn
  have e : b ≠ q := fun z => hq (by rw [← z]; exact h.1.mem hb)
  exact ⟨a1, a2, a3, (nA_aNa e).trans a4, (nA_aIa e).trans a5, (nA_aJa e).trans a6, (nA_aQa e).trans a7⟩
theorem Fr.cR {S S2 : PS} {M : Nat → Prop} {a b sp dp n : Nat} (h : Fr S S2 M) (z : Wr S M b) : Fr S (cR S2 a b sp dp n) M := by
  refine ⟨h.1.tr (fun _ _ y => y), fun x hb hn => ?_⟩
  obtain ⟨a1, a2, a3, a4, a5, a6, a7⟩ := h.2 x hb hn
  exact ⟨a1, a2, a3, a4, a5, a6, (cR_a (z.ne hb hn)).trans a7⟩
theorem Fr.new {S S2 : PS} {M : Nat → Prop} (h : Fr S S2 M) {q : Nat} (hq : q ∉ pL S2) : q ∉ pL S := fun z => hq (h.1.mem z)
theorem ALO.fr {S S2 : PS} {a e : Nat} {M : Nat → Prop} (h : ALO S S2 a e) (ha : M a) (he : M e ∨ e ∉ pL S) : Fr S S2 M := by
  refine ⟨fun k b z => ⟨by rw [h.1]; exact z.1, by rw [h.2.1]; exact z.2⟩, fun b hb hn => ?_⟩
  have n1 : b ≠ a := fun z => hn (by rw [z]; exact ha)
  have n2 : b ≠ e := he.elim (fun y z => hn (by rw [z]; exact y)) (fun y z => y (by rw [← z]; exact hb))
  exact ⟨fun f => h.2.2.2.2.2.2.2.1 f b n1, fun f => by rw [h.2.2.2.1], fun f => by rw [h.2.2.1], by rw [h.2.2.2.2.1], by rw [h.2.2.2.2.2.1], by rw [h.2.2.2.2.2.2.1], h.2.2.2.2.2.2.2.2 b n2⟩
/-- behind add -/
def ADDP (S S2 : PS) (dE a ea : Nat) (L : List Nat) (x : Nat) : Prop := ∃ ea2, AL S2 dE a ea2 (L ++ [x]) ∧ (ea2 = ea ∨ ea2 ∉ pL S) ∧ IsAt S2 21 ea2 ∧ Fr S S2 (fun b => b = a ∨ b = ea)
theorem snoc_at {L : List Nat} {x i : Nat} (h : i ≤ L.length) : (L ++ [x])[i]? = if i = L.length then some x else L[i]? := by
  by_cases e : i = L.length
  · rw [if_pos e, e]; simp
  · rw [if_neg e, List.getElem?_append_left (by omega)]
theorem add_room {S : PS} {dE a ea n x : Nat} {L : List Nat} (h : AL S dE a ea L) (hA : IsAt S 21 ea) (hn : aN S ea = n) (hr : L.length < n) (h10 : 10 ≤ n) (h7 : n ≤ 700) (hl : L.length < 400) : ADDP S (sI (tQ S ea L.length (some x)) 1202 a (nI (L.length + 1))) dE a ea L x := by
  refine ⟨ea, ⟨h.1, h.2.1, ?_, ?_, Or.inr ⟨hA, ?_, ?_, ?_, fun i hi => ?_⟩⟩, Or.inl rfl, hA, (Fr.rf.tQ (Or.inl (Or.inr rfl))).sI (Or.inl (Or.inl rfl))⟩
  · rw [sI_s, List.length_append]; rfl
  · rw [List.length_append]; exact hl
  · show 10 ≤ aN S ea; omega
  · show aN S ea ≤ 700; omega
  · rw [List.length_append]; show L.length + 1 ≤ aN S ea; omega
  · rw [List.length_append] at hi
    replace hi : i < L.length + 1 := hi
    show aQ (tQ S ea L.length (some x)) ea i = _
    rw [tQ_s, snoc_at (by omega)]
    by_cases e : i = L.length
    · rw [if_pos e, e]; simp [va_up]
    · rw [if_neg e, va_up_ne _ _ e]; exact (h.arr (by omega)).2.2.2.2
theorem add_empty {S : PS} {dE a q x : Nat} (h : AL S dE a dE []) (hq : q ∉ pL S) : ADDP S (sI (tQ (sR (nA S q 21 10) 1201 a (some q)) q 0 (some x)) 1202 a (nI 1)) dE a dE [] x := by
  have e1 : a ≠ q := fun z => hq (by rw [← z]; exact h.1.1)
  refine ⟨q, ⟨nA_ext (k := 21) (n := 10) hq _ _ h.1, sR_s, sI_s, (show 1 ≤ 400 by decide), Or.inr ⟨nA_is (n := 10), ?_, ?_, ?_, fun i hi => ?_⟩⟩, Or.inr hq, nA_is (n := 10), (((Fr.rf.nA hq).sR (Or.inl (Or.inl rfl))).tQ (Or.inr hq)).sI (Or.inl (Or.inl rfl))⟩
  · show 10 ≤ aN (nA S q 21 10) q; rw [nA_aN]; exact Nat.le_refl _
  · show aN (nA S q 21 10) q ≤ 700; rw [nA_aN]; decide
  · show 1 ≤ aN (nA S q 21 10) q; rw [nA_aN]; decide
  · replace hi : i < 1 := hi
    obtain rfl : i = 0 := by omega
    show aQ (tQ (sR (nA S q 21 10) 1201 a (some q)) q 0 (some x)) q 0 = some x
    rw [tQ_s]; simp [va_up]
theorem add_full {S : PS} {dE a ea q x k : Nat} {L : List Nat} (h : AL S dE a ea L) (hA : IsAt S 21 ea) (hf : aN S ea = L.length) (h10 : 10 ≤ L.length) (hl : L.length < 400) (hk : k = L.length + L.length / 2) (hq : q ∉ pL S) : ADDP S (sI (tQ (sR (cR (nA S q 21 k) ea q 0 0 L.length) 1201 a (some q)) q L.length (some x)) 1202 a (nI (L.length + 1))) dE a ea L x := by
  have e1 : a ≠ q := fun z => hq (by rw [← z]; exact h.1.1)
  have e2 : ea ≠ q := fun z => hq (by rw [← z]; exact hA.1)
  have hN : aN (nA S q 21 k) q = k := nA_aN
  refine ⟨q, ⟨nA_ext (k := 21) (n := k) hq _ _ h.1, sR_s, ?_, ?_, Or.inr ⟨nA_is (n := k), ?_, ?_, ?_, fun i hi => ?_⟩⟩, Or.inr hq, nA_is (n := k), ((((Fr.rf.nA hq).cR (Or.inr hq)).sR (Or.inl (Or.inl rfl))).tQ (Or.inr hq)).sI (Or.inl (Or.inl rfl))⟩
  · rw [sI_s, List.length_append]; rfl
  · rw [List.length_append]; exact hl
  · show 10 ≤ aN (nA S q 21 k) q; omega
  · show aN (nA S q 21 k) q ≤ 700; omega
  · rw [List.length_append]; show L.length + 1 ≤ aN (nA S q 21 k) q; omega
  · rw [List.length_append] at hi
    replace hi : i < L.length + 1 := hi
    show aQ (tQ (sR (cR (nA S q 21 k) ea q 0 0 L.length) 1201 a (some q)) q L.length (some x)) q i = _
    rw [tQ_s, snoc_at (by omega)]
    by_cases e : i = L.length
    · rw [if_pos e, e]; simp [va_up]
    · rw [if_neg e, va_up_ne _ _ e]
      show aQ (cR (nA S q 21 k) ea q 0 0 L.length) q i = _
      rw [cR_s]
      unfold va_cpy
      rw [if_pos ⟨Nat.zero_le _, by omega⟩, nA_aQa e2, Nat.zero_add, Nat.sub_zero]
      exact (h.arr (by omega)).2.2.2.2
theorem AL.mod {S : PS} {dE a ea : Nat} {L : List Nat} {v : Int32} (h : AL S dE a ea L) : AL (sI S 1200 a v) dE a ea L := ⟨h.1, h.2.1, by rw [sI_f (by decide)]; exact h.2.2.1, h.2.2.2.1, h.2.2.2.2⟩
theorem ADDP.mod {S S2 : PS} {dE a ea x : Nat} {L : List Nat} {v : Int32} (h : ADDP (sI S 1200 a v) S2 dE a ea L x) : ADDP S S2 dE a ea L x := by
  obtain ⟨ea2, h1, h2, h3, h4⟩ := h
  exact ⟨ea2, h1, h2, h3, (Fr.rf.sI (Or.inl (Or.inl rfl))).go h4⟩
