theorem mSend_o (g : MS) (x0 x1 x2 x3 x4 x5 x6 : Int32) {j : Nat} (h1 : j ≠ 32) (h2 : j ≠ 33) : (mSend g x0 x1 x2 x3 x4 x5 x6).1.1 j = g.1 j := by
  unfold mSend
  split
  · rfl
  · show (iI (iI (iI (iI (iI (iI (iI (iI (iI g 32 (8 * mqN g) x0) 32 (8 * mqN g + 1) x1) 32 (8 * mqN g + 2) x2) 32 (8 * mqN g + 3) x3) 32 (8 * mqN g + 4) x4) 32 (8 * mqN g + 5) x5) 32 (8 * mqN g + 6) x6) 32 (8 * mqN g + 7) 0) 33 (mqN g) 1).1 j = _
    rw [iI_j h2, iI_j h1, iI_j h1, iI_j h1, iI_j h1, iI_j h1, iI_j h1, iI_j h1, iI_j h1]
theorem mSend_l (g : MS) (x0 x1 x2 x3 x4 x5 x6 : Int32) : (mSend g x0 x1 x2 x3 x4 x5 x6).1.2.1 = g.2.1 := by
  unfold mSend
  split <;> rfl
theorem mSend_if (g : MS) (x0 x1 x2 x3 x4 x5 x6 : Int32) : (mSend g x0 x1 x2 x3 x4 x5 x6).1 = mPostIf g x0 x1 x2 x3 x4 x5 x6 0 := by
  unfold mSend mPostIf
  split
  · rfl
  · exact mPost_0 _ _ _ _ _ _ _ _ _
/-- g2 is g but for who holds what, and messages -/
def GBI (g g2 : MS) : Prop := (∀ j, j ≠ 27 → j ≠ 32 → j ≠ 33 → g2.1 j = g.1 j) ∧ g2.2.1 = g.2.1 ∧ ∀ f, f ≠ 1131 → g2.2.2 f = g.2.2 f
theorem GBI.rf {g : MS} : GBI g g := ⟨fun _ _ _ _ => rfl, rfl, fun _ _ => rfl⟩
theorem GBI.tr {g g2 g3 : MS} (h : GBI g g2) (k : GBI g2 g3) : GBI g g3 := ⟨fun j a b c => (k.1 j a b c).trans (h.1 j a b c), k.2.1.trans h.2.1, fun f a => (k.2.2 f a).trans (h.2.2 f a)⟩
theorem GBI.z {g : MS} {i : Nat} {v : Int32} : GBI g (iI g 27 i v) := ⟨fun _ a _ _ => iI_j a, rfl, fun _ _ => rfl⟩
theorem GBI.s {g : MS} {x0 x1 x2 x3 x4 x5 x6 : Int32} : GBI g (mSend g x0 x1 x2 x3 x4 x5 x6).1 := ⟨fun _ _ b c => mSend_o _ _ _ _ _ _ _ _ b c, mSend_l _ _ _ _ _ _ _ _, fun f a => mSend_n _ _ _ _ _ _ _ _ f a⟩
def gbF (gt kk : Nat) (q : MS) (h : Nat) : MS := if mLive q gt h then (if mSpan q h ≤ 2 * mAge q gt h then (mSend (iI q 27 h 0) 2 (nI gt) (nI kk) (q.1 28 h) (q.1 20 gt) (-1) (nI h)).1 else q) else iI q 27 h 0
theorem GBI.f {g : MS} {gt kk h : Nat} : GBI g (gbF gt kk g h) := by
  unfold gbF
  split
  · split
    · exact GBI.z.tr GBI.s
    · exact GBI.rf
  · exact GBI.z
theorem gbF_27 (g : MS) (gt kk h x : Nat) : (gbF gt kk g h).1 27 x = if x = h ∧ ¬ (mLive g gt h ∧ ¬ mSpan g h ≤ 2 * mAge g gt h) then 0 else g.1 27 x := by
  unfold gbF
  by_cases a : mLive g gt h
  · rw [if_pos a]
    by_cases b : mSpan g h ≤ 2 * mAge g gt h
    · rw [if_pos b, mSend_o _ _ _ _ _ _ _ _ (by decide) (by decide)]
      by_cases c : x = h
      · rw [if_pos ⟨c, fun z => z.2 b⟩, c]; exact iI_s
      · rw [if_neg (fun z => c z.1)]; exact iI_o c
    · rw [if_neg b, if_neg (fun z => z.2 ⟨a, b⟩)]
  · rw [if_neg a]
    by_cases c : x = h
    · rw [if_pos ⟨c, fun z => a z.1⟩, c]; exact iI_s
    · rw [if_neg (fun z => c z.1)]; exact iI_o c
theorem GBI.live {g g2 : MS} (h : GBI g g2) (gt x : Nat) : mLive g2 gt x ↔ mLive g gt x := by
  unfold mLive mAge mSpan mClk
  rw [h.1 29 (by decide) (by decide) (by decide), h.1 30 (by decide) (by decide) (by decide), h.2.1]
theorem GBI.half {g g2 : MS} (h : GBI g g2) (gt x : Nat) : (mSpan g2 x ≤ 2 * mAge g2 gt x) ↔ (mSpan g x ≤ 2 * mAge g gt x) := by
  unfold mAge mSpan mClk
  rw [h.1 29 (by decide) (by decide) (by decide), h.1 30 (by decide) (by decide) (by decide), h.2.1]
theorem gbFold_I (gt kk : Nat) : ∀ (L : List Nat) (g : MS), GBI g (L.foldl (gbF gt kk) g) := by
  intro L
  induction L with
  | nil => intro g; exact GBI.rf
  | cons a L ih => intro g; exact GBI.f.tr (ih _)
theorem gbFold_27 (gt kk : Nat) : ∀ (L : List Nat) (g : MS) (x : Nat), (L.foldl (gbF gt kk) g).1 27 x = if x ∈ L ∧ ¬ (mLive g gt x ∧ ¬ mSpan g x ≤ 2 * mAge g gt x) then 0 else g.1 27 x := by
  intro L
  induction L with
  | nil => intro g x; rw [if_neg (fun z => absurd z.1 List.not_mem_nil)]; rfl
  | cons a L ih =>
    intro g x
    rw [List.foldl_cons, ih, gbF_27]
    have hI := GBI.f (g := g) (gt := gt) (kk := kk) (h := a)
    have hk : (mLive (gbF gt kk g a) gt x ∧ ¬ mSpan (gbF gt kk g a) x ≤ 2 * mAge (gbF gt kk g a) gt x) ↔ (mLive g gt x ∧ ¬ mSpan g x ≤ 2 * mAge g gt x) := and_congr (hI.live gt x) (not_congr (hI.half gt x))
    by_cases z : mLive g gt x ∧ ¬ mSpan g x ≤ 2 * mAge g gt x
    · rw [if_neg (fun q => q.2 (hk.mpr z)), if_neg (c := x ∈ a :: L ∧ ¬ (mLive g gt x ∧ ¬ mSpan g x ≤ 2 * mAge g gt x)) (fun q => q.2 z)]
      by_cases e : x = a
      · rw [if_neg (fun q => by rw [← e] at q; exact q.2 z)]
      · rw [if_neg (fun q => e q.1)]
    · by_cases m : x ∈ L
      · rw [if_pos ⟨m, fun q => z (hk.mp q)⟩, if_pos ⟨List.mem_cons_of_mem _ m, z⟩]
      · rw [if_neg (fun q => m q.1)]
        by_cases e : x = a
        · rw [if_pos ⟨e, by rw [← e]; exact z⟩, if_pos ⟨by rw [e]; exact List.mem_cons_self, z⟩]
        · rw [if_neg (fun q => e q.1), if_neg (fun q => (List.mem_cons.mp q.1).elim e m)]
theorem mGB_hs (g : MS) (gt kk n : Nat) : (mGB g gt kk n).1 = (hs g gt kk n).foldl (gbF gt kk) g := by
  induction n with
  | zero => rfl
  | succ n ih =>
    have e27 : (mGB g gt kk n).1.1 27 n = g.1 27 n := by rw [ih, gbFold_27, if_neg (fun q => absurd (mem_fil.mp q.1).1 (Nat.lt_irrefl _))]
    have hI := gbFold_I gt kk (hs g gt kk n) g
    have e8 : (mGB g gt kk n).1.1 8 n = g.1 8 n := by rw [ih, hI.1 8 (by decide) (by decide) (by decide)]
    have eh : mHold (mGB g gt kk n).1 gt kk n ↔ mHold g gt kk n := by unfold mHold; rw [e27, e8]
    rw [mGB]
    unfold hs
    rw [fil_succ]
    by_cases h : mHold g gt kk n
    · rw [if_pos (eh.mpr h), if_pos h, List.foldl_append]
      show _ = gbF gt kk ((hs g gt kk n).foldl (gbF gt kk) g) n
      rw [← ih, gbF]
      by_cases a : mLive (mGB g gt kk n).1 gt n
      · rw [if_pos a, if_pos a]
        by_cases b : mSpan (mGB g gt kk n).1 n ≤ 2 * mAge (mGB g gt kk n).1 gt n
        · rw [if_pos b, if_pos b]
        · rw [if_neg b, if_neg b]
      · rw [if_neg a, if_neg a]
    · rw [if_neg (fun z => h (eh.mp z)), if_neg h]; exact ih
/-- the holds that stay -/
abbrev kpt (g : MS) (gt x : Nat) : Prop := mLive g gt x ∧ ¬ mSpan g x ≤ 2 * mAge g gt x
def kpL (g : MS) (gt : Nat) (L : List Nat) : List Nat := L.filter (fun x => decide (kpt g gt x))
theorem hs_gb {g : MS} {gt kk n : Nat} (hg : gt < 6) : hs (mGB g gt kk n).1 gt kk n = kpL g gt (hs g gt kk n) := by
  unfold kpL hs fil
  rw [List.filter_filter]
  refine List.filter_congr (fun x hx => ?_)
  have hx := List.mem_range.mp hx
  have hI := gbFold_I gt kk (hs g gt kk n) g
  have e8 : (mGB g gt kk n).1.1 8 x = g.1 8 x := by rw [mGB_hs, hI.1 8 (by decide) (by decide) (by decide)]
  have e27 : (mGB g gt kk n).1.1 27 x = if x ∈ hs g gt kk n ∧ ¬ kpt g gt x then 0 else g.1 27 x := by rw [mGB_hs, gbFold_27]
  by_cases h : mHold g gt kk x
  · by_cases k : kpt g gt x
    · have : mHold (mGB g gt kk n).1 gt kk x := by unfold mHold; rw [e27, e8, if_neg (fun z => z.2 k)]; exact h
      rw [decide_eq_true this, decide_eq_true h, decide_eq_true k]; rfl
    · have : ¬ mHold (mGB g gt kk n).1 gt kk x := by
        unfold mHold; rw [e27, e8, if_pos ⟨mem_fil.mpr ⟨hx, h⟩, k⟩]
        exact fun z => absurd z.1.symm (nI_ne0 (by omega) (by omega))
      rw [decide_eq_false this, decide_eq_true h, decide_eq_false k]; rfl
  · have : ¬ mHold (mGB g gt kk n).1 gt kk x := by
      unfold mHold; rw [e27, e8]
      by_cases z : x ∈ hs g gt kk n ∧ ¬ kpt g gt x
      · exact absurd (mem_fil.mp z.1).2 h
      · rw [if_neg z]; exact h
    rw [decide_eq_false this, decide_eq_false h, Bool.and_false]
theorem kpL_succ {g : MS} {gt : Nat} {L : List Nat} {k h : Nat} (hh : L[k]? = some h) : kpL g gt (L.take (k + 1)) = if kpt g gt h then kpL g gt (L.take k) ++ [h] else kpL g gt (L.take k) := by
  unfold kpL
  rw [List.take_add_one, hh, List.filter_append]
  by_cases z : kpt g gt h
  · rw [if_pos z]
    show _ ++ List.filter _ [h] = _
    rw [List.filter_cons, if_pos (decide_eq_true z)]; rfl
  · rw [if_neg z]
    show _ ++ List.filter _ [h] = _
    rw [List.filter_cons, if_neg (by rw [decide_eq_false z]; decide)]; exact List.append_nil _
theorem fold_succ {f : MS → Nat → MS} {g : MS} {L : List Nat} {k h : Nat} (hh : L[k]? = some h) : (L.take (k + 1)).foldl f g = f ((L.take k).foldl f g) h := by
  rw [List.take_add_one, hh, List.foldl_append]; rfl
theorem kpL_len (g : MS) (gt : Nat) (L : List Nat) (k : Nat) : (kpL g gt (L.take k)).length ≤ k := by
  have h1 := List.length_filter_le (fun x => decide (kpt g gt x)) (L.take k)
  have h2 : (L.take k).length ≤ k := by rw [List.length_take]; omega
  unfold kpL; omega
/-- the list while the loop runs: what is kept so far, and the rest as it was -/
abbrev mxL (K L : List Nat) : List Nat := K ++ L.drop K.length
theorem mx_get {K L : List Nat} {k : Nat} (h : K.length ≤ k) : (mxL K L)[k]? = L[k]? := by
  rw [List.getElem?_append_right h, List.getElem?_drop, show K.length + (k - K.length) = k by omega]
theorem mx_len {K L : List Nat} (h : K.length ≤ L.length) : (mxL K L).length = L.length := by
  rw [List.length_append, List.length_drop]; omega
theorem mx_set {K L : List Nat} {h : Nat} (hl : K.length < L.length) : (mxL K L).set K.length h = mxL (K ++ [h]) L := by
  refine List.ext_getElem? (fun i => ?_)
  rw [List.getElem?_set, mx_len (by omega)]
  by_cases e : K.length = i
  · subst e
    rw [if_pos rfl, if_pos hl]
    unfold mxL
    rw [List.append_assoc, List.getElem?_append_right (Nat.le_refl _)]
    simp
  · rw [if_neg e]
    unfold mxL
    rw [List.append_assoc]
    by_cases q : i < K.length
    · rw [List.getElem?_append_left q, List.getElem?_append_left q]
    · rw [List.getElem?_append_right (by omega), List.getElem?_append_right (by omega), List.getElem?_drop]
      obtain ⟨m, rfl⟩ : ∃ m, i = K.length + (m + 1) := ⟨i - K.length - 1, by omega⟩
      rw [show K.length + (m + 1) - K.length = m + 1 by omega, List.singleton_append, List.getElem?_cons_succ, List.getElem?_drop, List.length_append]
      show L[K.length + (m + 1)]? = L[K.length + 1 + m]?
      rw [show K.length + (m + 1) = K.length + 1 + m by omega]
theorem take_erase {L : List Nat} {r : Nat} (h0 : 0 < r) (h : r ≤ L.length) : (L.take r).eraseIdx (r - 1) = L.take (r - 1) := by
  refine List.ext_getElem? (fun i => ?_)
  rw [List.getElem?_eraseIdx, List.getElem?_take, List.getElem?_take, List.getElem?_take]
  by_cases z : i < r - 1
  · rw [if_pos z, if_pos (by omega), if_pos z]
  · rw [if_neg z, if_neg z, if_neg (by omega)]
theorem AL.set {S : PS} {dE a ea i x : Nat} {L : List Nat} (h : AL S dE a ea L) (hi : i < L.length) : AL (tQ S ea i (some x)) dE a ea (L.set i x) := by
  have hA := h.arr hi
  refine ⟨h.1, h.2.1, by rw [List.length_set]; exact h.2.2.1, by rw [List.length_set]; exact h.2.2.2.1, Or.inr ⟨hA.1, hA.2.1, hA.2.2.1, by rw [List.length_set]; exact hA.2.2.2.1, fun j hj => ?_⟩⟩
  rw [List.length_set] at hj
  rw [tQ_s, List.getElem?_set]
  by_cases e : i = j
  · subst e; rw [if_pos rfl, if_pos hi, up_same]
  · rw [if_neg e, va_up_ne _ _ (fun z => e z.symm)]; exact (h.arr hj).2.2.2.2
theorem dec_lt {r k : Nat} (hr : r ≤ 300) (hk : k ≤ 300) : (-1) + nI r < nI k ↔ r < k + 1 := by
  by_cases z : r = 0
  · subst z
    refine ⟨fun _ => by omega, fun _ => ?_⟩
    rw [Int32.lt_iff_toInt_lt]
    have := pk_sub_toInt (a := k) (b := 0) (by omega) (by omega)
    have e : (nI k - nI 0) = nI k := pk_sub (by omega)
    rw [e] at this
    rw [this]
    show (-1 : Int) < _
    omega
  · rw [Int32.add_comm, nI_dec (by omega), nI_ltI (by omega) (by omega)]; omega
theorem mem_drop1 {L : List Nat} {k x : Nat} (h : x ∈ L.drop (k + [x].length)) : x ∈ L.drop k := by
  have : L.drop (k + 1) = (L.drop k).drop 1 := by rw [List.drop_drop]
  rw [show k + [x].length = k + 1 from rfl, this] at h
  exact List.mem_of_mem_drop h
theorem gbF_m {g : MS} (h : MsgOk g) (gt kk x : Nat) : MsgOk (gbF gt kk g x) := by
  unfold gbF
  split
  · split
    · exact mSend_ok (g := iI g 27 x 0) h _ _ _ _ _ _ _
    · exact h
  · exact h
theorem gbFold_m {g : MS} (h : MsgOk g) (gt kk : Nat) : ∀ L : List Nat, MsgOk (L.foldl (gbF gt kk) g) := by
  intro L
  induction L generalizing g with
  | nil => exact h
  | cons a L ih => exact ih (gbF_m h gt kk a)
set_option maxRecDepth 100000 in
set_option maxHeartbeats 1000000 in
theorem c_X2_giveBack {l : Launch} {D : va_G} {cy : Nat → ClassId} {B : Nat} {s0 : State} {S : PS} {y : Nat → Nat} {dE mi : Nat} {g : MS} {c0 : CS} {gt kk : Nat} {n : Nat} {L : List Nat} (hC : CR S y dE g c0) (hE : EnvC dE mi B s0) (hg : gt < 6) (hk : kk < 8) (hn3 : n ≤ 300) (hL : cP c0 (8 * gt + kk) = L) (hLs : L = hs g gt kk n) (hm : MsgOk g) : KV l yX2_giveBack wsX2_giveBack ({ frames := 3, cells := L.length, slots := (8 * L.length), locals := 106 }) D cy B s0 [.ref (y (100 + (8 * gt + kk))), .int (g.1 20 gt), .int (mClk g gt), .ref (y 2)] S (fun S2 => ∃ c2, CF S S2 y ∧ CR S2 y dE (mGB g gt kk n).1 c2 ∧ CsD c0 c2 (8 * gt + kk) (hs (mGB g gt kk n).1 gt kk n)) L.length (8 * L.length) := by
  refine k_body (own := RX2) (cc := cX2_giveBack) (maxL := 8) (ret := none) rfl (by decide) rfl (Nat.le_of_ble_eq_true rfl) ?_
  intro p e s m below meth c C hml hr hlk hnm hB hW ls hl
  obtain ⟨hx, hb, hts, hown, hK, hEn⟩ := id C
  have hS : va_S (Aw B) s.heap s.heap [] := va_S.rf
  have hinX2 : ∀ w ∈ wsX20, w ∈ wsX2_giveBack := by decide +kernel
  have hinX6 : ∀ w ∈ wsX60, w ∈ wsX2_giveBack := by decide +kernel
  have l12 : Cond.fieldLink RX2 12 "LeaseGates$Desk" "holds" "Ljava/util/ArrayList;" ∈ wsX2_giveBack := by decide +kernel
  have l18 : Cond.fieldLink RX2 18 "LeaseGates$Desk" "gate" "I" ∈ wsX2_giveBack := by decide +kernel
  have l22 : Cond.fieldLink RX2 22 "LeaseGates$Desk" "key" "I" ∈ wsX2_giveBack := by decide +kernel
  have hl : lv_has ls 8 [(0, .ref (y (100 + (8 * gt + kk)))), (1, .int (g.1 20 gt)), (2, .int (mClk g gt)), (3, .ref (y 2))] := hl
  have hF : CF S S y := CF.rf
  have hl3 : L.length ≤ 300 := by rw [hLs]; exact Nat.le_trans (fil_len _ _) hn3
  have hA : AL S dE (y (200 + (8 * gt + kk))) (cA c0 (8 * gt + kk)) (L.map (cH c0)) := by rw [← hL]; exact hC.2.hl (8 * gt + kk) (by omega)
  refine lv_iconst (v := 0) hx hb dX2_giveBack_0 (by decide) ?_
  refine lv_istore (lv' := [(4, .int 0), (0, .ref (y (100 + (8 * gt + kk)))), (1, .int (g.1 20 gt)), (2, .int (mClk g gt)), (3, .ref (y 2))]) hx hb dX2_giveBack_1 hl (by decide) rfl (fun ls hl => ?_)
  refine lv_aload_n hx hb dX2_giveBack_3 rfl (lv_at hl 1 rfl) ?_
  refine g_202 C hinX2 hW (hC.1.lay.ek (8 * gt + kk) (by omega)) (hC.1.lay.r202 (8 * gt + kk) (by omega)) l12 dX2_giveBack_4 ?_
  refine k_callVi (As := []) (rest := []) C hml (c_Jx4a65c_size_8abf5 hA.1) (cwV 0 hts gX2_giveBack_Jx4a65c_size_8abf5 rfl rfl rfl (by decide +kernel) ⟨Nat.le_of_ble_eq_true rfl, Nat.le_of_ble_eq_true rfl⟩) hW hS hB ((hC.2.hl (8 * gt + kk) (by omega)).1).1 (pAt_12 ((hC.2.hl (8 * gt + kk) (by omega)).1).2) rfl rfl hl.1 rfl (Nat.le_of_ble_eq_true rfl) dX2_giveBack_7 ⟨Nat.zero_le _, Nat.zero_le _⟩ (fun r9 S1 H locs hp9 hW hS => ?_)
  obtain ⟨e8, e9⟩ := hp9
  rw [e8] at hW
  replace e9 := e9.trans (hA.2.2.1.trans (congrArg nI (List.length_map _)))
  subst e9
  refine lv_istore (lv' := [(5, .int (nI L.length)), (4, .int 0), (0, .ref (y (100 + (8 * gt + kk)))), (1, .int (g.1 20 gt)), (2, .int (mClk g gt)), (3, .ref (y 2))]) hx hb dX2_giveBack_10 hl (by decide) rfl (fun ls hl => ?_)
  refine lv_iconst (v := 0) hx hb dX2_giveBack_12 (by decide) ?_
  refine lv_istore (lv' := [(6, .int 0), (5, .int (nI L.length)), (4, .int 0), (0, .ref (y (100 + (8 * gt + kk)))), (1, .int (g.1 20 gt)), (2, .int (mClk g gt)), (3, .ref (y 2))]) hx hb dX2_giveBack_13 hl (by decide) rfl (fun ls hl => ?_)
  have lp : ∀ (d k : Nat) (gk : MS) (ck : CS) (K : List Nat) (Sk : PS) (H : Heap) (locs : List Loc) (ls : Array Slot), k ≤ L.length → L.length - k < d → CR Sk y dE gk ck → CF S Sk y → gk = (L.take k).foldl (gbF gt kk) g → K = kpL g gt (L.take k) → CsD c0 ck (8 * gt + kk) (mxL K L) → PW D cy B Sk H → va_S (Aw B) s.heap H locs → lv_has ls 8 [(0, .ref (y (100 + (8 * gt + kk)))), (1, .int (g.1 20 gt)), (2, .int (mClk g gt)), (3, .ref (y 2)), (4, .int (nI K.length)), (5, .int (nI L.length)), (6, .int (nI k))] → W p l e ({ frames := 3, cells := L.length, slots := (8 * L.length), locals := 106 }) s m [.ref (y (100 + (8 * gt + kk))), .int (g.1 20 gt), .int (mClk g gt), .ref (y 2)].toArray below meth c H locs k (8 * k) (MQ below (va_Qv (fun S2 => ∃ c2, CF S S2 y ∧ CR S2 y dE (mGB g gt kk n).1 c2 ∧ CsD c0 c2 (8 * gt + kk) (hs (mGB g gt kk n).1 gt kk n)) (PreW D cy B s0) (Aw B)) [.ref (y (100 + (8 * gt + kk))), .int (g.1 20 gt), .int (mClk g gt), .ref (y 2)].toArray s L.length (8 * L.length) (Aw B)) (F0 m 15 ls []) := by
    intro d
    induction d with
    | zero => intro k gk ck K Sk H locs ls _ hd; exact absurd hd (Nat.not_lt_zero _)
    | succ d ih =>
      intro k gk ck K Sk H locs ls hk hd hC hF eg eK hD hW hS hl
      refine lv_iload hx hb dX2_giveBack_15 (lv_at hl 6 rfl) ?_
      refine lv_iload hx hb dX2_giveBack_17 (lv_at hl 5 rfl) ?_
      refine lv_icmp_ge (tgt := 109) hx hb dX2_giveBack_19 (by decide) (fun c_19 => ?_) (fun c_19 => ?_)
      · have q_19 : L.length ≤ k := (nI_leI (a := L.length) (b := k) (by omega) (by omega)).mp c_19
        have ek9 : k = L.length := by omega
        have hKL : K.length ≤ L.length := by have := kpL_len g gt L k; rw [← eK] at this; omega
        rw [ek9, List.take_length] at eg eK
        refine lv_iload hx hb dX2_giveBack_109 (lv_at hl 5 rfl) ?_
        refine lv_iconst (v := 1) hx hb dX2_giveBack_111 (by decide) ?_
        refine lv_isub hx hb dX2_giveBack_112 ?_
        refine top_i (show (nI L.length) - 1 = (-1) + nI L.length from ((Int32.sub_eq_add_neg _ _).trans (Int32.add_comm _ _))) ?_
        refine lv_istore (lv' := [(6, .int ((-1) + nI L.length)), (0, .ref (y (100 + (8 * gt + kk)))), (1, .int (g.1 20 gt)), (2, .int (mClk g gt)), (3, .ref (y 2)), (4, .int (nI K.length)), (5, .int (nI L.length))]) hx hb dX2_giveBack_113 hl (by decide) rfl (fun ls hl => ?_)
        have lq : ∀ (d_lq : Nat) (r : Nat) (cr : CS) (Sr : PS) (H : Heap) (locs : List Loc) (ls : Array Slot), r < d_lq → CR Sr y dE gk cr → CF S Sr y → CsD c0 cr (8 * gt + kk) ((mxL K L).take r) → (K.length ≤ r ∧ r ≤ L.length) → PW D cy B Sr H → va_S (Aw B) s.heap H locs → lv_has ls 8 [(0, .ref (y (100 + (8 * gt + kk)))), (1, .int (g.1 20 gt)), (2, .int (mClk g gt)), (3, .ref (y 2)), (4, .int (nI K.length)), (5, .int (nI L.length)), (6, .int ((-1) + nI r))] → W p l e ({ frames := 3, cells := L.length, slots := (8 * L.length), locals := 106 }) s m [.ref (y (100 + (8 * gt + kk))), .int (g.1 20 gt), .int (mClk g gt), .ref (y 2)].toArray below meth c H locs k (8 * k) (MQ below (va_Qv (fun S2 => ∃ c2, CF S S2 y ∧ CR S2 y dE (mGB g gt kk n).1 c2 ∧ CsD c0 c2 (8 * gt + kk) (hs (mGB g gt kk n).1 gt kk n)) (PreW D cy B s0) (Aw B)) [.ref (y (100 + (8 * gt + kk))), .int (g.1 20 gt), .int (mClk g gt), .ref (y 2)].toArray s L.length (8 * L.length) (Aw B)) (F0 m 115 ls []) := by
          intro d_lq
          induction d_lq with
          | zero => intro r cr Sr H locs ls hd; exact absurd hd (Nat.not_lt_zero _)
          | succ d_lq ih_lq =>
            intro r cr Sr H locs ls hd hC hF hD hr1 hW hS hl
            refine lv_iload hx hb dX2_giveBack_115 (lv_at hl 6 rfl) ?_
            refine lv_iload hx hb dX2_giveBack_117 (lv_at hl 4 rfl) ?_
            refine lv_icmp_lt (tgt := 138) hx hb dX2_giveBack_119 (by decide) (fun c_119 => ?_) (fun c_119 => ?_)
            · have q_119 : r < K.length + 1 := (dec_lt (by omega) (by omega)).mp c_119
              exact k_vret C hr hlk hW hS hB ⟨cr, hF, by rw [mGB_hs, ← hLs]; exact (by rw [← eg]; exact hC), by rw [hs_gb hg, ← hLs, ← eK, show K = (mxL K L).take r by rw [show r = K.length by omega, List.take_append_of_le_length (Nat.le_refl _), List.take_length]]; exact hD⟩ (by omega) (by omega) dX2_giveBack_138
            · have q_119 : ¬ (r < K.length + 1) := fun z => c_119 ((dec_lt (by omega) (by omega)).mpr z)
              have hA : AL Sr dE (y (200 + (8 * gt + kk))) (cA cr (8 * gt + kk)) (((mxL K L).take r).map (cH cr)) := by rw [← hD.1]; exact hC.2.hl (8 * gt + kk) (by omega)
              have hml9 := mx_len (K := K) (L := L) hKL
              refine lv_aload_n hx hb dX2_giveBack_122 rfl (lv_at hl 0 rfl) ?_
              refine g_202 C hinX2 hW (hC.1.lay.ek (8 * gt + kk) (by omega)) (hC.1.lay.r202 (8 * gt + kk) (by omega)) l12 dX2_giveBack_123 ?_
              refine lv_iload hx hb dX2_giveBack_126 (lv_at hl 6 rfl) ?_
              refine top_i (show (-1) + nI r = nI (r - 1) from (Int32.add_comm _ _).trans (nI_dec (by omega))) ?_
              refine k_callVq (As := [.int (nI (r - 1))]) (rest := []) C hml (c_Jx4a65c_remove_915e3 hA (by rw [List.length_map, List.length_take, mx_len (by omega)]; omega) (List.getElem?_eq_getElem (by rw [List.length_map, List.length_take, mx_len (by omega)]; omega)) (hA.el (fun z hz => (hC.1.hv (8 * gt + kk) (by omega) z (by rw [hD.1]; exact hz)).1)) hE.2.1) (cwV 1 hts gX2_giveBack_Jx4a65c_remove_915e3 rfl rfl rfl (by decide +kernel) ⟨Nat.le_of_ble_eq_true rfl, Nat.le_of_ble_eq_true rfl⟩) hW hS hB ((hC.2.hl (8 * gt + kk) (by omega)).1).1 (pAt_12 ((hC.2.hl (8 * gt + kk) (by omega)).1).2) rfl rfl hl.1 rfl (Nat.le_of_ble_eq_true rfl) dX2_giveBack_128 ⟨by show _ ≤ L.length; omega, by show _ ≤ 8 * L.length; omega⟩ (fun r9 S2 H locs hp9 hW hS => ?_)
              obtain ⟨⟨o9, a9⟩, e9⟩ := hp9
              subst e9
              have hfr : Fr Sr S2 (fun b => b = y (200 + (8 * gt + kk)) ∨ b = cA cr (8 * gt + kk)) := o9.fr (Or.inl rfl) (Or.inl (Or.inr rfl))
              have hF9 : CF S S2 y := hF.tr (CF.lk hfr (LK_list hC.2 (by omega) hA.1))
              rw [← map_erase, take_erase (by omega) (by omega)] at a9
              have hC9 : CR S2 y dE gk (csP cr (8 * gt + kk) (cA cr (8 * gt + kk)) ((mxL K L).take (r - 1))) := hC.hlist (by omega) hfr a9 (Or.inl rfl) (hW.nd hE.1.2.2) (fun x hx => by rw [hD.1]; exact List.mem_of_mem_take (by rw [List.take_take, show min (r - 1) r = r - 1 by omega]; exact hx))
              clear hC hF
              have hC := hC9
              have hF := hF9
              refine lv_pop hx hb dX2_giveBack_131 rfl ?_
              refine lv_iinc (v := (-1) + nI (r - 1)) (lv' := [(6, .int ((-1) + nI (r - 1))), (0, .ref (y (100 + (8 * gt + kk)))), (1, .int (g.1 20 gt)), (2, .int (mClk g gt)), (3, .ref (y 2)), (4, .int (nI K.length)), (5, .int (nI L.length))]) hx hb dX2_giveBack_132 hl (k := 6) rfl (by rw [Int32.add_comm (-1) (nI r), nI_dec (r := r) (by omega), Int32.add_comm]; rfl) (by decide) rfl (fun ls hl => ?_)
              refine lv_goto (tgt := 115) hx hb dX2_giveBack_135 (by decide) ?_
              exact ih_lq (r - 1) (csP cr (8 * gt + kk) (cA cr (8 * gt + kk)) ((mxL K L).take (r - 1))) _ _ _ ls (by omega) hC hF hD.p ⟨by omega, by omega⟩ hW hS (lv_sub hl [1, 2, 3, 4, 5, 6, 0] rfl)
        exact lq (L.length + 1) L.length ck _ _ _ ls (Nat.lt_succ_self _) hC hF (by rw [List.take_of_length_le (by rw [mx_len hKL]; exact Nat.le_refl _)]; exact hD) ⟨hKL, Nat.le_refl _⟩ hW hS (lv_sub hl [1, 2, 3, 4, 5, 6, 0] rfl)
      · have q_19 : ¬ (L.length ≤ k) := fun z => c_19 ((nI_leI (a := L.length) (b := k) (by omega) (by omega)).mpr z)
        obtain ⟨h, hh⟩ : ∃ x9, L[k]? = some x9 := ⟨_, List.getElem?_eq_getElem (by omega)⟩
        have hKk : K.length ≤ k := by rw [eK]; exact kpL_len _ _ _ _
        have hI : GBI g gk := by rw [eg]; exact gbFold_I gt kk _ g
        have hmk : MsgOk gk := by rw [eg]; exact gbFold_m hm gt kk _
        have hm9 : h ∈ cP ck (8 * gt + kk) := by rw [hD.1]; exact List.mem_of_getElem? ((mx_get hKk).trans hh)
        have hA : AL Sk dE (y (200 + (8 * gt + kk))) (cA ck (8 * gt + kk)) ((mxL K L).map (cH ck)) := by rw [← hD.1]; exact hC.2.hl (8 * gt + kk) (by omega)
        refine lv_aload_n hx hb dX2_giveBack_22 rfl (lv_at hl 0 rfl) ?_
        refine g_202 C hinX2 hW (hC.1.lay.ek (8 * gt + kk) (by omega)) (hC.1.lay.r202 (8 * gt + kk) (by omega)) l12 dX2_giveBack_23 ?_
        refine lv_iload hx hb dX2_giveBack_26 (lv_at hl 6 rfl) ?_
        refine k_callVq (As := [.int (nI k)]) (rest := []) C hml (c_Jx4a65c_get_915e3 (q := cH ck h) hA (by rw [List.length_map, mx_len (by omega)]; omega) (by rw [List.getElem?_map, mx_get hKk, hh]; rfl)) (cwV 1 hts gX2_giveBack_Jx4a65c_get_915e3 rfl rfl rfl (by decide +kernel) ⟨Nat.le_of_ble_eq_true rfl, Nat.le_of_ble_eq_true rfl⟩) hW hS hB ((hC.2.hl (8 * gt + kk) (by omega)).1).1 (pAt_12 ((hC.2.hl (8 * gt + kk) (by omega)).1).2) rfl rfl hl.1 rfl (Nat.le_of_ble_eq_true rfl) dX2_giveBack_28 ⟨by show _ ≤ L.length; omega, by show _ ≤ 8 * L.length; omega⟩ (fun r9 S3 H locs hp9 hW hS => ?_)
        obtain ⟨e8, e9⟩ := hp9
        rw [e8] at hW
        subst e9
        refine k_cast4 C hW (hC.1.hv (8 * gt + kk) (by omega) h hm9).1 hE.2.2.2.1 (show Cond.classLink RX2 55 "LeaseGates$Hold" ∈ wsX2_giveBack by decide +kernel) dX2_giveBack_31 ?_
        refine lv_astore (lv' := [(7, .ref (cH ck h)), (0, .ref (y (100 + (8 * gt + kk)))), (1, .int (g.1 20 gt)), (2, .int (mClk g gt)), (3, .ref (y 2)), (4, .int (nI K.length)), (5, .int (nI L.length)), (6, .int (nI k))]) hx hb dX2_giveBack_34 hl (by decide) rfl (fun ls hl => ?_)
        refine lv_aload hx hb dX2_giveBack_36 (lv_at hl 0 rfl) ?_
        refine lv_iload_n hx hb dX2_giveBack_38 rfl (lv_at hl 3 rfl) ?_
        refine k_callVi (As := [.int (mClk g gt)]) (rest := []) C hml (c_X4_isLive (hC.1.hv (8 * gt + kk) (by omega) h hm9).1) (cwV 1 hts gX2_giveBack_X4_isLive rfl rfl rfl (by decide +kernel) ⟨Nat.le_of_ble_eq_true rfl, Nat.le_of_ble_eq_true rfl⟩) hW hS hB ((hC.1.hv (8 * gt + kk) (by omega) h hm9).1).1 (pAt_4 ((hC.1.hv (8 * gt + kk) (by omega) h hm9).1).2) rfl rfl hl.1 rfl (Nat.le_of_ble_eq_true rfl) dX2_giveBack_39 ⟨by show _ ≤ L.length; omega, by show _ ≤ 8 * L.length; omega⟩ (fun r9 S4 H locs hp9 hW hS => ?_)
        obtain ⟨e8, e9⟩ := hp9
        rw [e8] at hW
        rw [(hC.1.hv (8 * gt + kk) (by omega) h hm9).2.2.1, (hC.1.hv (8 * gt + kk) (by omega) h hm9).2.2.2.1, hI.1 29 (by decide) (by decide) (by decide), hI.1 30 (by decide) (by decide) (by decide)] at e9
        subst e9
        refine lv_if_eq (tgt := 72) hx hb dX2_giveBack_42 (by decide) (fun c_42 => ?_) (fun c_42 => ?_)
        · have q_42 : ¬ (mLive g gt h) := ite0.mp c_42
          refine lv_aload hx hb dX2_giveBack_72 (lv_at hl 0 rfl) ?_
          refine lv_iload_n hx hb dX2_giveBack_74 rfl (lv_at hl 3 rfl) ?_
          refine k_callVi (As := [.int (mClk g gt)]) (rest := []) C hml (c_X4_isLive (hC.1.hv (8 * gt + kk) (by omega) h hm9).1) (cwV 1 hts gX2_giveBack_X4_isLive rfl rfl rfl (by decide +kernel) ⟨Nat.le_of_ble_eq_true rfl, Nat.le_of_ble_eq_true rfl⟩) hW hS hB ((hC.1.hv (8 * gt + kk) (by omega) h hm9).1).1 (pAt_4 ((hC.1.hv (8 * gt + kk) (by omega) h hm9).1).2) rfl rfl hl.1 rfl (Nat.le_of_ble_eq_true rfl) dX2_giveBack_75 ⟨by show _ ≤ L.length; omega, by show _ ≤ 8 * L.length; omega⟩ (fun r9 S5 H locs hp9 hW hS => ?_)
          obtain ⟨e8, e9⟩ := hp9
          rw [e8] at hW
          rw [(hC.1.hv (8 * gt + kk) (by omega) h hm9).2.2.1, (hC.1.hv (8 * gt + kk) (by omega) h hm9).2.2.2.1, hI.1 29 (by decide) (by decide) (by decide), hI.1 30 (by decide) (by decide) (by decide)] at e9
          subst e9
          refine lv_if_eq (tgt := 103) hx hb dX2_giveBack_78 (by decide) (fun c_78 => ?_) (fun c_78 => absurd (ite1.mp c_78) q_42)
          have q_78 : ¬ (mLive g gt h) := ite0.mp c_78
          refine lv_iinc (v := nI (k + 1)) (lv' := [(6, .int (nI (k + 1))), (7, .ref (cH ck h)), (0, .ref (y (100 + (8 * gt + kk)))), (1, .int (g.1 20 gt)), (2, .int (mClk g gt)), (3, .ref (y 2)), (4, .int (nI K.length)), (5, .int (nI L.length))]) hx hb dX2_giveBack_103 hl (k := 7) rfl (nI_add k 1) (by decide) rfl (fun ls hl => ?_)
          refine lv_goto (tgt := 15) hx hb dX2_giveBack_106 (by decide) ?_
          exact W.widen (by omega) (by omega) (ih (k + 1) (iI gk 27 h 0) ck K _ _ _ ls (by omega) (by omega) hC.g27 hF (by rw [fold_succ hh, ← eg, gbF, if_neg (fun z => q_78 ((hI.live gt h).mp z))]) (by rw [kpL_succ hh, if_neg (fun z => q_78 z.1)]; exact eK) hD hW hS (lv_sub hl [2, 3, 4, 5, 6, 7, 0] rfl))
        · have q_42 : (mLive g gt h) := ite1.mp c_42
          refine lv_aload hx hb dX2_giveBack_45 (lv_at hl 0 rfl) ?_
          refine lv_iload_n hx hb dX2_giveBack_47 rfl (lv_at hl 3 rfl) ?_
          refine k_callVi (As := [.int (mClk g gt)]) (rest := []) C hml (c_X4_isHalfOver (hC.1.hv (8 * gt + kk) (by omega) h hm9).1) (cwV 1 hts gX2_giveBack_X4_isHalfOver rfl rfl rfl (by decide +kernel) ⟨Nat.le_of_ble_eq_true rfl, Nat.le_of_ble_eq_true rfl⟩) hW hS hB ((hC.1.hv (8 * gt + kk) (by omega) h hm9).1).1 (pAt_4 ((hC.1.hv (8 * gt + kk) (by omega) h hm9).1).2) rfl rfl hl.1 rfl (Nat.le_of_ble_eq_true rfl) dX2_giveBack_48 ⟨by show _ ≤ L.length; omega, by show _ ≤ 8 * L.length; omega⟩ (fun r9 S6 H locs hp9 hW hS => ?_)
          obtain ⟨e8, e9⟩ := hp9
          rw [e8] at hW
          rw [(hC.1.hv (8 * gt + kk) (by omega) h hm9).2.2.1, (hC.1.hv (8 * gt + kk) (by omega) h hm9).2.2.2.1, hI.1 29 (by decide) (by decide) (by decide), hI.1 30 (by decide) (by decide) (by decide)] at e9
          subst e9
          refine lv_if_ne (tgt := 72) hx hb dX2_giveBack_51 (by decide) (fun c_51 => ?_) (fun c_51 => ?_)
          · have q_51 : (mSpan g h ≤ 2 * mAge g gt h) := ite1.mp c_51
            refine lv_aload hx hb dX2_giveBack_72 (lv_at hl 0 rfl) ?_
            refine lv_iload_n hx hb dX2_giveBack_74 rfl (lv_at hl 3 rfl) ?_
            refine k_callVi (As := [.int (mClk g gt)]) (rest := []) C hml (c_X4_isLive (hC.1.hv (8 * gt + kk) (by omega) h hm9).1) (cwV 1 hts gX2_giveBack_X4_isLive rfl rfl rfl (by decide +kernel) ⟨Nat.le_of_ble_eq_true rfl, Nat.le_of_ble_eq_true rfl⟩) hW hS hB ((hC.1.hv (8 * gt + kk) (by omega) h hm9).1).1 (pAt_4 ((hC.1.hv (8 * gt + kk) (by omega) h hm9).1).2) rfl rfl hl.1 rfl (Nat.le_of_ble_eq_true rfl) dX2_giveBack_75 ⟨by show _ ≤ L.length; omega, by show _ ≤ 8 * L.length; omega⟩ (fun r9 S7 H locs hp9 hW hS => ?_)
            obtain ⟨e8, e9⟩ := hp9
            rw [e8] at hW
            rw [(hC.1.hv (8 * gt + kk) (by omega) h hm9).2.2.1, (hC.1.hv (8 * gt + kk) (by omega) h hm9).2.2.2.1, hI.1 29 (by decide) (by decide) (by decide), hI.1 30 (by decide) (by decide) (by decide)] at e9
            subst e9
            refine lv_if_eq (tgt := 103) hx hb dX2_giveBack_78 (by decide) (fun c_78 => absurd (ite1.mp (fun z => c_42 z)) (ite0.mp c_78)) (fun c_78 => ?_)
            have q_78 : (mLive g gt h) := ite1.mp c_78
            refine lv_aload_n hx hb dX2_giveBack_81 rfl (lv_at hl 4 rfl) ?_
            refine n_6 C hinX6 hW hS hB (show Cond.classLink RX2 94 RX6 ∈ wsX2_giveBack by decide +kernel) (show Cond.instantiable RX6 8 ∈ wsX2_giveBack by decide +kernel) (show Cond.initialized RX6 ∈ wsX2_giveBack by decide +kernel) (by show _ ≤ L.length; omega) (by show _ ≤ 8 * L.length; omega) dX2_giveBack_82 (fun q S8 H e1 qn hW hS => ?_)
            have hC0 := hC
            have hF0 := hF
            replace hC : CR S8 y dE gk ck := hC.fr0 (by rw [e1]; exact Fr.rf.nO qn) (hW.nd hE.1.2.2)
            replace hF : CF S S8 y := by rw [e1]; exact hF.nO qn
            have hq : IsAt S8 6 q := by rw [e1]; exact nO_is
            have hnew : Fr Sk S8 (fun _ => False) := by rw [e1]; exact Fr.rf.nO qn
            clear e1
            refine lv_dup hx hb dX2_giveBack_85 rfl ?_
            refine lv_aload_n hx hb dX2_giveBack_86 rfl (lv_at hl 1 rfl) ?_
            refine g_200 C hinX2 hW (hC.1.lay.ek (8 * gt + kk) (by omega)) l18 dX2_giveBack_87 ?_
            refine top_i (show fI S8 200 (y (100 + (8 * gt + kk))) = nI gt from hC.1.lay.e0 gt kk (by omega) (by omega)) ?_
            refine lv_aload_n hx hb dX2_giveBack_90 rfl (lv_at hl 1 rfl) ?_
            refine g_201 C hinX2 hW (hC.1.lay.ek (8 * gt + kk) (by omega)) l22 dX2_giveBack_91 ?_
            refine top_i (show fI S8 201 (y (100 + (8 * gt + kk))) = nI kk from hC.1.lay.e1 gt kk (by omega) (by omega)) ?_
            refine lv_iload_n hx hb dX2_giveBack_94 rfl (lv_at hl 2 rfl) ?_
            refine lv_aload hx hb dX2_giveBack_95 (lv_at hl 0 rfl) ?_
            refine k_callI (As := [.int (nI gt), .int (nI kk), .int (g.1 20 gt), .ref (cH ck h)]) (rest := [.ref q, .ref (y 2)]) C hml (c_X6_init__ hq (hC.1.hv (8 * gt + kk) (by omega) h hm9).1 (hC.1.hv (8 * gt + kk) (by omega) h hm9).2.2.2.2.1 (hC.1.hv (8 * gt + kk) (by omega) h hm9).2.1) (cwI 4 hts ggX2_giveBack_X6_init__ rfl rfl rfl (hts (.initialized yX6_init__.cls) (by decide +kernel)) (hts (.methodLink RX2 112 yX6_init__) (by decide +kernel)) (hts (.instanceMethod yX6_init__) (by decide +kernel)) rfl (by decide +kernel) ⟨Nat.le_of_ble_eq_true rfl, Nat.le_of_ble_eq_true rfl⟩) hW hS hB rfl hl.1 rfl (Nat.le_of_ble_eq_true rfl) dX2_giveBack_97 ⟨by show _ ≤ L.length; omega, by show _ ≤ 8 * L.length; omega⟩ (fun S9 H locs hp9 hW hS => ?_)
            have hfr : Fr Sk S9 (fun _ => False) := hnew.tr hp9.2 (fun b hb z => qn (by rw [← z]; exact hb))
            replace hC : CR S9 y dE gk ck := hC0.fr0 hfr (hW.nd hE.1.2.2)
            replace hF : CF S S9 y := hF0.tr (CF.of hfr (fun b hb z => z.elim))
            clear hC0 hF0 hnew
            refine k_callVv (As := [.ref q]) (rest := []) C hml (c_X7_send (hC.g27 (i := h) (v := 0)) (hmk : MsgOk (iI gk 27 h 0)) hp9.1) (cwV 1 hts gX2_giveBack_X7_send rfl rfl rfl (by decide +kernel) ⟨Nat.le_of_ble_eq_true rfl, Nat.le_of_ble_eq_true rfl⟩) hW hS hB (hC.1.lay.k2).1 (pAt_7 (hC.1.lay.k2).2) rfl rfl hl.1 rfl (Nat.le_of_ble_eq_true rfl) dX2_giveBack_100 ⟨by show _ ≤ L.length; omega, by show _ ≤ 8 * L.length; omega⟩ (fun S10 H locs hp9 hW hS => ?_)
            obtain ⟨f9, k9⟩ := hp9
            have hF9 := hF.tr f9
            have hC9 : CR S10 y dE (mSend (iI gk 27 h 0) 2 (nI gt) (nI kk) (gk.1 28 h) (gk.1 20 gt) (-1) (nI h)).1 ck := by rw [mSend_if, hI.1 20 (by decide) (by decide) (by decide)]; exact k9
            clear hC hF
            have hC := hC9
            have hF := hF9
            refine lv_iinc (v := nI (k + 1)) (lv' := [(6, .int (nI (k + 1))), (7, .ref (cH ck h)), (0, .ref (y (100 + (8 * gt + kk)))), (1, .int (g.1 20 gt)), (2, .int (mClk g gt)), (3, .ref (y 2)), (4, .int (nI K.length)), (5, .int (nI L.length))]) hx hb dX2_giveBack_103 hl (k := 7) rfl (nI_add k 1) (by decide) rfl (fun ls hl => ?_)
            refine lv_goto (tgt := 15) hx hb dX2_giveBack_106 (by decide) ?_
            exact W.widen (by omega) (by omega) (ih (k + 1) (mSend (iI gk 27 h 0) 2 (nI gt) (nI kk) (gk.1 28 h) (gk.1 20 gt) (-1) (nI h)).1 ck K _ _ _ ls (by omega) (by omega) hC hF (by rw [fold_succ hh, ← eg, gbF, if_pos ((hI.live gt h).mpr q_78), if_pos ((hI.half gt h).mpr q_51)]) (by rw [kpL_succ hh, if_neg (fun z => z.2 q_51)]; exact eK) hD hW hS (lv_sub hl [2, 3, 4, 5, 6, 7, 0] rfl))
          · have q_51 : ¬ (mSpan g h ≤ 2 * mAge g gt h) := ite0.mp c_51
            refine lv_aload_n hx hb dX2_giveBack_54 rfl (lv_at hl 1 rfl) ?_
            refine g_202 C hinX2 hW (hC.1.lay.ek (8 * gt + kk) (by omega)) (hC.1.lay.r202 (8 * gt + kk) (by omega)) l12 dX2_giveBack_55 ?_
            refine lv_iload hx hb dX2_giveBack_58 (lv_at hl 5 rfl) ?_
            refine lv_aload hx hb dX2_giveBack_60 (lv_at hl 0 rfl) ?_
            refine k_callVq (As := [.int (nI K.length), .ref (cH ck h)]) (rest := []) C hml (c_Jx4a65c_set_bcc79 (q := ((mxL K L).map (cH ck))[K.length]'(by rw [List.length_map, mx_len (by omega)]; omega)) hA (by rw [List.length_map, mx_len (by omega)]; omega) (List.getElem?_eq_getElem _) (hC.1.hv (8 * gt + kk) (by omega) h hm9).1 hE.2.1) (cwV 2 hts gX2_giveBack_Jx4a65c_set_bcc79 rfl rfl rfl (by decide +kernel) ⟨Nat.le_of_ble_eq_true rfl, Nat.le_of_ble_eq_true rfl⟩) hW hS hB ((hC.2.hl (8 * gt + kk) (by omega)).1).1 (pAt_12 ((hC.2.hl (8 * gt + kk) (by omega)).1).2) rfl rfl hl.1 rfl (Nat.le_of_ble_eq_true rfl) dX2_giveBack_62 ⟨by show _ ≤ L.length; omega, by show _ ≤ 8 * L.length; omega⟩ (fun r9 S11 H locs hp9 hW hS => ?_)
            obtain ⟨e8, e9⟩ := hp9
            subst e9
            have hfr : Fr Sk S11 (fun b => b = y (200 + (8 * gt + kk)) ∨ b = cA ck (8 * gt + kk)) := by rw [e8]; exact Fr.rf.tQ (Or.inl (Or.inr rfl))
            have hF9 : CF S S11 y := hF.tr (CF.lk hfr (LK_list hC.2 (by omega) hA.1))
            have hC9 : CR S11 y dE gk (csP ck (8 * gt + kk) (cA ck (8 * gt + kk)) (mxL (K ++ [h]) L)) := hC.hlist (by omega) hfr (by rw [e8, ← mx_set (by omega), List.map_set]; exact hA.set (by rw [List.length_map, mx_len (by omega)]; omega)) (Or.inl rfl) (hW.nd hE.1.2.2) (fun x hx => by
              rw [hD.1]
              rcases List.mem_append.mp hx with u | u
              · rcases List.mem_append.mp u with v | v
                · exact List.mem_append_left _ v
                · rw [List.mem_singleton.mp v]; rw [hD.1] at hm9; exact hm9
              · refine List.mem_append_right _ ?_
                rw [List.length_append] at u
                exact mem_drop1 u)
            clear hC hF
            have hC := hC9
            have hF := hF9
            refine lv_pop hx hb dX2_giveBack_65 rfl ?_
            refine lv_iinc (v := nI (K ++ [h]).length) (lv' := [(4, .int (nI (K ++ [h]).length)), (7, .ref (cH ck h)), (0, .ref (y (100 + (8 * gt + kk)))), (1, .int (g.1 20 gt)), (2, .int (mClk g gt)), (3, .ref (y 2)), (5, .int (nI L.length)), (6, .int (nI k))]) hx hb dX2_giveBack_66 hl (k := 5) rfl (by rw [List.length_append]; exact nI_add K.length 1) (by decide) rfl (fun ls hl => ?_)
            refine lv_goto (tgt := 103) hx hb dX2_giveBack_69 (by decide) ?_
            refine lv_iinc (v := nI (k + 1)) (lv' := [(6, .int (nI (k + 1))), (4, .int (nI (K ++ [h]).length)), (7, .ref (cH ck h)), (0, .ref (y (100 + (8 * gt + kk)))), (1, .int (g.1 20 gt)), (2, .int (mClk g gt)), (3, .ref (y 2)), (5, .int (nI L.length))]) hx hb dX2_giveBack_103 hl (k := 7) rfl (nI_add k 1) (by decide) rfl (fun ls hl => ?_)
            refine lv_goto (tgt := 15) hx hb dX2_giveBack_106 (by decide) ?_
            exact W.widen (by omega) (by omega) (ih (k + 1) gk (csP ck (8 * gt + kk) (cA ck (8 * gt + kk)) (mxL (K ++ [h]) L)) (K ++ [h]) _ _ _ ls (by omega) (by omega) hC hF (by rw [fold_succ hh, ← eg, gbF, if_pos ((hI.live gt h).mpr q_42), if_neg (fun z => q_51 ((hI.half gt h).mp z))]) (by rw [kpL_succ hh, if_pos ⟨q_42, q_51⟩, ← eK]) hD.p hW hS (lv_sub hl [3, 4, 5, 6, 1, 7, 0] rfl))
  exact W.widen (by omega) (by omega) (lp (L.length - 0 + 1) 0 g c0 [] _ _ _ ls (by omega) (by omega) hC hF rfl rfl (by rw [← hL]; exact CsD.rf) hW hS (lv_sub hl [3, 4, 5, 6, 2, 1, 0] rfl))
