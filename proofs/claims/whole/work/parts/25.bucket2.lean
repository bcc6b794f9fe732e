def kBring (g : MS) (n k h : Nat) (tok : Int32) : MS × Int32 := if g.1 9 h = 0 then (g, 0) else (kFill (iI g 9 h 0) n k (1000 * tok.toInt64), 1)
theorem kBring_a {g : MS} {n k h : Nat} {tok : Int32} (z : g.1 9 h = 0) : kBring g n k h tok = (g, 0) := if_pos z
theorem kBring_b {g : MS} {n k h : Nat} {tok : Int32} (z : ¬ g.1 9 h = 0) : kBring g n k h tok = (kFill (iI g 9 h 0) n k (1000 * tok.toInt64), 1) := if_neg z
theorem bring_pos {g : MS} {n k : Nat} {tok : Int32} (h : BInv g n) (hk : k < 8) (h1 : 0 ≤ tok.toInt) : 0 ≤ (g.2.1 5 k + 1000 * tok.toInt64).toInt := by
  obtain ⟨-, -, b⟩ := h.1 k hk
  have d := Int32.toInt_lt tok
  have e0 : (1000 : Int64).toInt = 1000 := by decide
  have e : (1000 * tok.toInt64).toInt = 1000 * tok.toInt := by
    rw [i64_mul (by rw [e0, Int32.toInt_toInt64]; omega) (by rw [e0, Int32.toInt_toInt64]; omega), e0, Int32.toInt_toInt64]
  rw [i64_add (by rw [e]; omega) (by rw [e]; omega), e]
  omega
set_option maxRecDepth 100000 in
set_option maxHeartbeats 1000000 in
theorem c_X1_bringBack {l : Launch} {D : va_G} {cy : Nat → ClassId} {B : Nat} {s0 : State} {S : PS} {y : Nat → Nat} {dE mi : Nat} {g : MS} {c0 : CS} {k n h : Nat} {x2 : Int32} {L : List Nat} (hC : CR S y dE g c0) (hE : EnvC dE mi B s0) (hk8 : k < 8) (hn3 : n ≤ 300) (hCB : CanB c0 g n) (hI : BInv g n) (hL : cQl c0 k = L) (hh9 : h < n) (hkey : g.1 8 h = nI k) (ht : 0 ≤ x2.toInt) : KI l yX1_bringBack wsX1_bringBack ({ frames := 4, cells := 0, slots := 0, locals := 127 }) D cy B s0 [.ref (y (40 + k)), .int (nI h), .int x2] S (fun r S2 => ∃ c2, CF S S2 y ∧ CR S2 y dE (kBring g n k h x2).1 c2 ∧ CanB c2 (kBring g n k h x2).1 n ∧ cP c2 = cP c0 ∧ r = (kBring g n k h x2).2) 0 0 := by
  refine k_body (own := RX1) (cc := cX1_bringBack) (maxL := 4) (ret := (some .boolean)) rfl (by decide) rfl (Nat.le_of_ble_eq_true rfl) ?_
  intro p e s m below meth c C hml hr hlk hnm hB hW ls hl
  obtain ⟨hx, hb, hts, hown, hK, hEn⟩ := id C
  have hS : va_S (Aw B) s.heap s.heap [] := va_S.rf
  have hinX1 : ∀ w ∈ wsX10, w ∈ wsX1_bringBack := by decide +kernel
  have hinX5 : ∀ w ∈ wsX50, w ∈ wsX1_bringBack := by decide +kernel
  have l12 : Cond.fieldLink RX1 12 "LeaseGates$Bucket" "loans" "Ljava/util/ArrayList;" ∈ wsX1_bringBack := by decide +kernel
  have l29 : Cond.constantLong RX1 29 (1000) ∈ wsX1_bringBack := by decide +kernel
  have l79 : Cond.fieldLink RX1 79 "LeaseGates$Loan" "number" "I" ∈ wsX1_bringBack := by decide +kernel
  have hl : lv_has ls 4 [(0, .ref (y (40 + k))), (1, .int (nI h)), (2, .int x2)] := hl
  have hF : CF S S y := CF.rf
  have hl4 : L.length ≤ 400 := by rw [← hL]; have z := (hC.2.bl k hk8).2.2.2.1; rw [List.length_map] at z; exact z
  have hA : AL S dE (y (50 + k)) (cA c0 (48 + k)) (L.map (cL c0)) := by rw [← hL]; exact hC.2.bl k hk8
  refine lv_iconst (v := 0) hx hb dX1_bringBack_0 (by decide) ?_
  refine lv_istore_n (lv' := [(3, .int 0), (0, .ref (y (40 + k))), (1, .int (nI h)), (2, .int x2)]) hx hb dX1_bringBack_1 rfl hl (by decide) rfl (fun ls hl => ?_)
  have lp : ∀ (d i : Nat) (H : Heap) (locs : List Loc) (ls : Array Slot), i ≤ L.length → L.length - i < d → (∀ j, j < i → ¬ L[j]? = some h) → PW D cy B S H → va_S (Aw B) s.heap H locs → lv_has ls 4 [(0, .ref (y (40 + k))), (1, .int (nI h)), (2, .int x2), (3, .int (nI i))] → W p l e ({ frames := 4, cells := 0, slots := 0, locals := 127 }) s m [.ref (y (40 + k)), .int (nI h), .int x2].toArray below meth c H locs 0 0 (MQ below (va_Qi (fun r S2 => ∃ c2, CF S S2 y ∧ CR S2 y dE (kBring g n k h x2).1 c2 ∧ CanB c2 (kBring g n k h x2).1 n ∧ cP c2 = cP c0 ∧ r = (kBring g n k h x2).2) (PreW D cy B s0) (Aw B)) [.ref (y (40 + k)), .int (nI h), .int x2].toArray s 0 0 (Aw B)) (F0 m 2 ls []) := by
    intro d
    induction d with
    | zero => intro i  H locs ls _ hd; exact absurd hd (Nat.not_lt_zero _)
    | succ d ih =>
      intro i  H locs ls hk hd hno hW hS hl
      refine lv_iload_n hx hb dX1_bringBack_2 rfl (lv_at hl 3 rfl) ?_
      refine lv_aload_n hx hb dX1_bringBack_3 rfl (lv_at hl 0 rfl) ?_
      refine g_100 C hinX1 hW (hC.1.lay.bk k (by omega)) (hC.1.lay.r100 k (by omega)) l12 dX1_bringBack_4 ?_
      refine k_callVi (As := []) (rest := [.int (nI i)]) C hml (c_Jx4a65c_size_8abf5 hA.1) (cwV 0 hts gX1_bringBack_Jx4a65c_size_8abf5 rfl rfl rfl (by decide +kernel) ⟨by decide, by decide⟩) hW hS hB ((hC.2.bl k (by omega)).1).1 (pAt_12 ((hC.2.bl k (by omega)).1).2) rfl rfl hl.1 rfl (Nat.le_of_ble_eq_true rfl) dX1_bringBack_7 ⟨Nat.le_of_ble_eq_true rfl, Nat.le_of_ble_eq_true rfl⟩ (fun r9 S1 H locs hp9 hW hS => ?_)
      obtain ⟨e8, e9⟩ := hp9
      rw [e8] at hW
      replace e9 := e9.trans (hA.2.2.1.trans (congrArg nI (List.length_map _)))
      subst e9
      refine lv_icmp_ge (tgt := 54) hx hb dX1_bringBack_10 (by decide) (fun c_10 => ?_) (fun c_10 => ?_)
      · have q_10 : L.length ≤ i := (nI_leI (a := L.length) (b := i) (by omega) (by omega)).mp c_10
        have hz9 : g.1 9 h = 0 := Decidable.byContradiction (fun z => by
          have m9 : h ∈ L := by rw [← hL, (hCB k hk8).1]; exact mem_fil.mpr ⟨hh9, hkey, z⟩
          obtain ⟨j, j1, j2⟩ := List.mem_iff_getElem.mp m9
          exact hno j (by omega) (by rw [List.getElem?_eq_getElem j1, j2]))
        refine lv_iconst (v := 0) hx hb dX1_bringBack_54 (by decide) ?_
        exact k_zret C hr hlk hW hS hB ⟨c0, hF, by rw [kBring_a hz9]; exact hC, by rw [kBring_a hz9]; exact hCB, rfl, by rw [kBring_a hz9]⟩ (by decide) (Nat.le_refl _) (Nat.le_refl _) dX1_bringBack_55
      · have q_10 : ¬ (L.length ≤ i) := fun z => c_10 ((nI_leI (a := L.length) (b := i) (by omega) (by omega)).mpr z)
        obtain ⟨h1, hh1⟩ : ∃ x9, L[i]? = some x9 := ⟨_, List.getElem?_eq_getElem (by omega)⟩
        have hvh1 := hC.1.bv k hk8 h1 (by rw [hL]; exact List.mem_of_getElem? hh1)
        have h13 := hvh1.2.2.2.2
        refine lv_aload_n hx hb dX1_bringBack_13 rfl (lv_at hl 0 rfl) ?_
        refine g_100 C hinX1 hW (hC.1.lay.bk k (by omega)) (hC.1.lay.r100 k (by omega)) l12 dX1_bringBack_14 ?_
        refine lv_iload_n hx hb dX1_bringBack_17 rfl (lv_at hl 3 rfl) ?_
        refine k_callVq (As := [.int (nI i)]) (rest := []) C hml (c_Jx4a65c_get_915e3 (q := cL c0 h1) hA (by rw [List.length_map]; omega) (by rw [List.getElem?_map, hh1]; rfl)) (cwV 1 hts gX1_bringBack_Jx4a65c_get_915e3 rfl rfl rfl (by decide +kernel) ⟨by decide, by decide⟩) hW hS hB ((hC.2.bl k (by omega)).1).1 (pAt_12 ((hC.2.bl k (by omega)).1).2) rfl rfl hl.1 rfl (Nat.le_of_ble_eq_true rfl) dX1_bringBack_18 ⟨Nat.le_of_ble_eq_true rfl, Nat.le_of_ble_eq_true rfl⟩ (fun r9 S2 H locs hp9 hW hS => ?_)
        obtain ⟨e8, e9⟩ := hp9
        rw [e8] at hW
        subst e9
        refine k_cast5 C hW hvh1.1 hE.2.2.2.2.1 (show Cond.classLink RX1 57 "LeaseGates$Loan" ∈ wsX1_bringBack by decide +kernel) dX1_bringBack_21 ?_
        refine g_500 C hinX5 hW hvh1.1 l79 dX1_bringBack_24 ?_
        refine top_i (show fI S 500 (cL c0 h1) = nI h1 from hvh1.2.1) ?_
        refine lv_iload_n hx hb dX1_bringBack_27 rfl (lv_at hl 1 rfl) ?_
        refine lv_icmp_ne (tgt := 48) hx hb dX1_bringBack_28 (by decide) (fun c_28 => ?_) (fun c_28 => ?_)
        · have q_28 : ¬ (h1 = h) := fun z => c_28 ((nI_eq (a := h1) (b := h) (by omega) (by omega)).mpr z)
          refine lv_iinc (v := nI (i + 1)) (lv' := [(3, .int (nI (i + 1))), (0, .ref (y (40 + k))), (1, .int (nI h)), (2, .int x2)]) hx hb dX1_bringBack_48 hl (k := 3) rfl (nI_add i 1) (by decide) rfl (fun ls hl => ?_)
          refine lv_goto (tgt := 2) hx hb dX1_bringBack_51 (by decide) ?_
          exact ih (i + 1)  _ _ ls (by omega) (by omega) (fun j z => by
    by_cases e9 : j = i
    · subst e9; rw [hh1]; intro z9; exact c_28 (by rw [Option.some.inj z9])
    · exact hno j (by omega)) hW hS (lv_sub hl [1, 2, 3, 0] rfl)
        · have q_28 : h1 = h := (nI_eq (a := h1) (b := h) (by omega) (by omega)).mp c_28
          have hh : L[i]? = some h := by rw [hh1, q_28]
          have hnz : ¬ g.1 9 h = 0 := by have z := List.mem_of_getElem? hh; rw [← hL, (hCB k hk8).1] at z; exact (mem_fil.mp z).2.2
          refine lv_aload_n hx hb dX1_bringBack_31 rfl (lv_at hl 0 rfl) ?_
          refine lv_iload_n hx hb dX1_bringBack_32 rfl (lv_at hl 3 rfl) ?_
          refine k_callVv (As := [.int (nI i)]) (rest := []) C hml (c_X1_close hC hE hk8 hL hh) (cwV 1 hts gX1_bringBack_X1_close rfl rfl rfl (by decide +kernel) ⟨by decide, by decide⟩) hW hS hB ((hC.1.lay.bk k (by omega))).1 (pAt_1 ((hC.1.lay.bk k (by omega))).2) rfl rfl hl.1 rfl (Nat.le_of_ble_eq_true rfl) dX1_bringBack_33 ⟨Nat.le_of_ble_eq_true rfl, Nat.le_of_ble_eq_true rfl⟩ (fun S3 H locs hp9 hW hS => ?_)
          obtain ⟨c9, f9, k9, u1, u2, u3⟩ := hp9
          have hF9 := hF.tr f9
          obtain ⟨v1, v2⟩ := hCB.close hk8 hn3 (by rw [← (hCB k hk8).1, hL]; exact hh) (by rw [← (hCB k hk8).1, hL]; exact u1) u2
          have hC9 : CR S3 y dE (iI g 9 h 0) c9 := k9.g9 v2
          clear hC hF
          have hC := hC9
          have hF := hF9
          replace hI : BInv (iI g 9 h 0) n := hI.z9
          replace hCB : CanB c9 (iI g 9 h 0) n := v1
          refine lv_aload_n hx hb dX1_bringBack_36 rfl (lv_at hl 0 rfl) ?_
          refine lv_ldc2 hx hb hown (hts _ l29) dX1_bringBack_37 ?_
          refine lv_iload_n hx hb dX1_bringBack_40 rfl (lv_at hl 2 rfl) ?_
          refine lv_i2l (v := x2.toInt64) hx hb dX1_bringBack_41 rfl ?_
          refine lv_lmul hx hb dX1_bringBack_42 ?_
          refine k_callVv (As := [.long (1000 * x2.toInt64)]) (rest := []) C hml (c_X1_fill (hC.1.lay.bk k hk8)) (cwV 1 hts gX1_bringBack_X1_fill rfl rfl rfl (by decide +kernel) ⟨by decide, by decide⟩) hW hS hB ((hC.1.lay.bk k (by omega))).1 (pAt_1 ((hC.1.lay.bk k (by omega))).2) rfl rfl hl.1 rfl (Nat.le_of_ble_eq_true rfl) dX1_bringBack_43 ⟨Nat.le_of_ble_eq_true rfl, Nat.le_of_ble_eq_true rfl⟩ (fun S4 H locs hp9 hW hS => ?_)
          have hF9 : CF S S4 y := by rw [hp9]; exact hF.sI (hC.1.lay.bk k hk8) (by decide)
          have hC9 : CR S4 y dE (kFill (iI g 9 h 0) n k (1000 * x2.toInt64)) (c9) := by rw [hp9]; exact hC.fill hk8 hCB hI (bring_pos hI hk8 ht)
          clear hC hF
          have hC := hC9
          have hF := hF9
          replace hI : BInv (kFill (iI g 9 h 0) n k (1000 * x2.toInt64)) n := hI.fill hn3 hk8
          replace hCB : CanB (c9) (kFill (iI g 9 h 0) n k (1000 * x2.toInt64)) n := hCB
          refine lv_iconst (v := 1) hx hb dX1_bringBack_46 (by decide) ?_
          exact k_zret C hr hlk hW hS hB ⟨c9, hF, by rw [kBring_b hnz]; exact hC, by rw [kBring_b hnz]; exact hCB, u3, by rw [kBring_b hnz]⟩ (by decide) (Nat.le_refl _) (Nat.le_refl _) dX1_bringBack_47
  exact lp (L.length - 0 + 1) 0  _ _ ls (by omega) (by omega) (fun j z => absurd z (Nat.not_lt_zero _)) hW hS (lv_sub hl [1, 2, 3, 0] rfl)
set_option maxRecDepth 100000 in
set_option maxHeartbeats 1000000 in
theorem c_X1_pass {l : Launch} {D : va_G} {cy : Nat → ClassId} {B : Nat} {s0 : State} {S : PS} {y : Nat → Nat} {dE mi : Nat} {g : MS} {c0 : CS} {k n : Nat} {tm to : Int32} (hC : CR S y dE g c0) (hE : EnvC dE mi B s0) (hk8 : k < 8) (hn3 : n ≤ 300) (hCB : CanB c0 g n) (hI : BInv g n) (hat0 : 0 ≤ tm.toInt ∧ tm.toInt ≤ to.toInt) (hend0 : ∀ h, h ∈ lsB g k n → tm.toInt < (g.1 10 h).toInt) : KV l yX1_pass wsX1_pass ({ frames := 4, cells := 0, slots := 0, locals := 127 }) D cy B s0 [.ref (y (40 + k)), .int tm, .int to] S (fun S2 => ∃ c2, CF S S2 y ∧ CR S2 y dE (kPass g n k tm to) c2 ∧ CanB c2 (kPass g n k tm to) n ∧ cP c2 = cP c0) 0 0 := by
  refine k_body (own := RX1) (cc := cX1_pass) (maxL := 7) (ret := none) rfl (by decide) rfl (Nat.le_of_ble_eq_true rfl) ?_
  intro p e s m below meth c C hml hr hlk hnm hB hW ls hl
  obtain ⟨hx, hb, hts, hown, hK, hEn⟩ := id C
  have hS : va_S (Aw B) s.heap s.heap [] := va_S.rf
  have hinX1 : ∀ w ∈ wsX10, w ∈ wsX1_pass := by decide +kernel
  have hinX5 : ∀ w ∈ wsX50, w ∈ wsX1_pass := by decide +kernel
  have l12 : Cond.fieldLink RX1 12 "LeaseGates$Bucket" "loans" "Ljava/util/ArrayList;" ∈ wsX1_pass := by decide +kernel
  have l18 : Cond.fieldLink RX1 18 "LeaseGates$Bucket" "rate" "I" ∈ wsX1_pass := by decide +kernel
  have l59 : Cond.fieldLink RX1 59 "LeaseGates$Loan" "end" "I" ∈ wsX1_pass := by decide +kernel
  have hl : lv_has ls 7 [(0, .ref (y (40 + k))), (1, .int tm), (2, .int to)] := hl
  have hF : CF S S y := CF.rf
  obtain ⟨L, hL0⟩ : ∃ L, L = lsB g k n := ⟨_, rfl⟩
  have hA : AL S dE (y (50 + k)) (cA c0 (48 + k)) (L.map (cL c0)) := by rw [hL0, ← (hCB k hk8).1]; exact hC.2.bl k hk8
  refine lv_iload_n hx hb dX1_pass_0 rfl (lv_at hl 1 rfl) ?_
  refine lv_istore_n (lv' := [(3, .int tm), (0, .ref (y (40 + k))), (1, .int tm), (2, .int to)]) hx hb dX1_pass_1 rfl hl (by decide) rfl (fun ls hl => ?_)
  refine lv_aload_n hx hb dX1_pass_2 rfl (lv_at hl 1 rfl) ?_
  refine g_100 C hinX1 hW (hC.1.lay.bk k (by omega)) (hC.1.lay.r100 k (by omega)) l12 dX1_pass_3 ?_
  refine k_callVi (As := []) (rest := []) C hml (c_Jx4a65c_size_8abf5 hA.1) (cwV 0 hts gX1_pass_Jx4a65c_size_8abf5 rfl rfl rfl (by decide +kernel) ⟨by decide, by decide⟩) hW hS hB ((hC.2.bl k (by omega)).1).1 (pAt_12 ((hC.2.bl k (by omega)).1).2) rfl rfl hl.1 rfl (Nat.le_of_ble_eq_true rfl) dX1_pass_6 ⟨Nat.le_of_ble_eq_true rfl, Nat.le_of_ble_eq_true rfl⟩ (fun r9 S1 H locs hp9 hW hS => ?_)
  obtain ⟨e8, e9⟩ := hp9
  rw [e8] at hW
  replace e9 := e9.trans (hA.2.2.1.trans (congrArg nI (List.length_map _)))
  subst e9
  refine lv_istore (lv' := [(4, .int (nI L.length)), (3, .int tm), (0, .ref (y (40 + k))), (1, .int tm), (2, .int to)]) hx hb dX1_pass_9 hl (by decide) rfl (fun ls hl => ?_)
  have lp : ∀ (d_lp : Nat) (x3 : Int32) (r : Nat) (gk : MS) (ck : CS) (Sk : PS) (H : Heap) (locs : List Loc) (ls : Array Slot), r < d_lp → CR Sk y dE gk ck → CF S Sk y → CanB ck gk n → BInv gk n → cP ck = cP c0 → (lsB gk k n).length = r → kPassD n k to r gk x3 = (kPass g n k tm to) → (0 ≤ x3.toInt ∧ x3.toInt ≤ to.toInt) → (∀ h, h ∈ (lsB gk k n) → x3.toInt < (gk.1 10 h).toInt) → PW D cy B Sk H → va_S (Aw B) s.heap H locs → lv_has ls 7 [(0, .ref (y (40 + k))), (1, .int tm), (2, .int to), (3, .int x3), (4, .int (nI r))] → W p l e ({ frames := 4, cells := 0, slots := 0, locals := 127 }) s m [.ref (y (40 + k)), .int tm, .int to].toArray below meth c H locs 0 0 (MQ below (va_Qv (fun S2 => ∃ c2, CF S S2 y ∧ CR S2 y dE (kPass g n k tm to) c2 ∧ CanB c2 (kPass g n k tm to) n ∧ cP c2 = cP c0) (PreW D cy B s0) (Aw B)) [.ref (y (40 + k)), .int tm, .int to].toArray s 0 0 (Aw B)) (F0 m 11 ls []) := by
    intro d_lp
    induction d_lp with
    | zero => intro x3 r gk ck Sk H locs ls hd; exact absurd hd (Nat.not_lt_zero _)
    | succ d_lp ih_lp =>
      intro x3 r gk ck Sk H locs ls hd hC hF hCB hI hP hr0 hE9 hat hend hW hS hl
      have hln : (lsB gk k n).length ≤ n := fil_len _ _
      have hto := Int32.toInt_lt to
      refine lv_iload hx hb dX1_pass_11 (lv_at hl 4 rfl) ?_
      refine lv_if_le (tgt := 99) hx hb dX1_pass_13 (by decide) (fun c_13 => ?_) (fun c_13 => ?_)
      · have q_13 : r ≤ 0 := (nI_leI (a := r) (b := 0) (by omega) (by omega)).mp c_13
        refine lv_aload_n hx hb dX1_pass_99 rfl (lv_at hl 0 rfl) ?_
        refine lv_aload_n hx hb dX1_pass_100 rfl (lv_at hl 0 rfl) ?_
        refine g_101 C hinX1 hW (hC.1.lay.bk k (by omega)) l18 dX1_pass_101 ?_
        refine top_i (show fI Sk 101 (y (40 + k)) = gk.1 3 k from hC.1.b1 k (by omega)) ?_
        refine lv_i2l (v := (gk.1 3 k).toInt64) hx hb dX1_pass_104 rfl ?_
        refine lv_iload_n hx hb dX1_pass_105 rfl (lv_at hl 2 rfl) ?_
        refine lv_iload_n hx hb dX1_pass_106 rfl (lv_at hl 3 rfl) ?_
        refine lv_isub hx hb dX1_pass_107 ?_
        refine lv_i2l (v := (to - x3).toInt64) hx hb dX1_pass_108 rfl ?_
        refine lv_lmul hx hb dX1_pass_109 ?_
        refine k_callVv (As := [.long (((gk.1 3 k).toInt64) * ((to - x3).toInt64))]) (rest := []) C hml (c_X1_fill (hC.1.lay.bk k hk8)) (cwV 1 hts gX1_pass_X1_fill rfl rfl rfl (by decide +kernel) ⟨by decide, by decide⟩) hW hS hB ((hC.1.lay.bk k (by omega))).1 (pAt_1 ((hC.1.lay.bk k (by omega))).2) rfl rfl hl.1 rfl (Nat.le_of_ble_eq_true rfl) dX1_pass_110 ⟨Nat.le_of_ble_eq_true rfl, Nat.le_of_ble_eq_true rfl⟩ (fun S2 H locs hp9 hW hS => ?_)
        have hF9 : CF S S2 y := by rw [hp9]; exact hF.sI (hC.1.lay.bk k hk8) (by decide)
        have hC9 : CR S2 y dE (kFill gk n k (((gk.1 3 k).toInt64) * ((to - x3).toInt64))) (ck) := by rw [hp9]; exact hC.fill hk8 hCB hI (fill_pos hI hk8 (by rw [i32_sub (by omega) (by omega)]; omega))
        clear hC hF
        have hC := hC9
        have hF := hF9
        replace hI : BInv (kFill gk n k (((gk.1 3 k).toInt64) * ((to - x3).toInt64))) n := hI.fill hn3 hk8
        replace hCB : CanB (ck) (kFill gk n k (((gk.1 3 k).toInt64) * ((to - x3).toInt64))) n := hCB
        exact k_vret C hr hlk hW hS hB ⟨ck, hF, by rw [← hE9, show r = 0 by omega]; exact hC, by rw [← hE9, show r = 0 by omega]; exact hCB, hP⟩ (Nat.le_refl _) (Nat.le_refl _) dX1_pass_113
      · have q_13 : ¬ (r ≤ 0) := fun z => c_13 ((nI_leI (a := r) (b := 0) (by omega) (by omega)).mpr z)
        refine lv_aload_n hx hb dX1_pass_16 rfl (lv_at hl 0 rfl) ?_
        refine k_callVi (As := []) (rest := []) C hml (c_X1_loanThatEndsFirst hC hE hk8 (hCB k hk8).1) (cwV 0 hts gX1_pass_X1_loanThatEndsFirst rfl rfl rfl (by decide +kernel) ⟨by decide, by decide⟩) hW hS hB ((hC.1.lay.bk k (by omega))).1 (pAt_1 ((hC.1.lay.bk k (by omega))).2) rfl rfl hl.1 rfl (Nat.le_of_ble_eq_true rfl) dX1_pass_17 ⟨Nat.le_of_ble_eq_true rfl, Nat.le_of_ble_eq_true rfl⟩ (fun r9 S3 H locs hp9 hW hS => ?_)
        obtain ⟨e8, e9⟩ := hp9
        rw [e8] at hW
        obtain ⟨j, h, hj9, hh, ej, hmin⟩ := eIx_min (g := gk) (L := (lsB gk k n)) (by omega) (lsB gk k n).length (by omega) (Nat.le_refl _)
        rw [ej] at e9
        subst e9
        have heh : eH gk (lsB gk k n) = h := eH_of ej hh (by omega)
        have hvh := hC.1.bv k hk8 h (by rw [(hCB k hk8).1]; exact List.mem_of_getElem? hh)
        have hn10 := hI.2 h (mem_fil.mp (List.mem_of_getElem? hh)).1
        have hlt := hend h (List.mem_of_getElem? hh)
        have hA : AL Sk dE (y (50 + k)) (cA ck (48 + k)) ((lsB gk k n).map (cL ck)) := by rw [← (hCB k hk8).1]; exact hC.2.bl k hk8
        refine lv_istore (lv' := [(5, .int (nI j)), (0, .ref (y (40 + k))), (1, .int tm), (2, .int to), (3, .int x3), (4, .int (nI r))]) hx hb dX1_pass_20 hl (by decide) rfl (fun ls hl => ?_)
        refine lv_iload hx hb dX1_pass_22 (lv_at hl 0 rfl) ?_
        refine lv_iconst (v := (-1)) hx hb dX1_pass_24 (by decide) ?_
        refine lv_icmp_eq (tgt := 99) hx hb dX1_pass_25 (by decide) (fun c_25 => absurd c_25 (fun z9 => nI_pos (n := j) (by omega) (by rw [z9]; decide))) (fun c_25 => ?_)
        refine lv_aload_n hx hb dX1_pass_28 rfl (lv_at hl 1 rfl) ?_
        refine g_100 C hinX1 hW (hC.1.lay.bk k (by omega)) (hC.1.lay.r100 k (by omega)) l12 dX1_pass_29 ?_
        refine lv_iload hx hb dX1_pass_32 (lv_at hl 0 rfl) ?_
        refine k_callVq (As := [.int (nI j)]) (rest := []) C hml (c_Jx4a65c_get_915e3 (q := cL ck h) hA (by rw [List.length_map]; exact hj9) (by rw [List.getElem?_map, hh]; rfl)) (cwV 1 hts gX1_pass_Jx4a65c_get_915e3 rfl rfl rfl (by decide +kernel) ⟨by decide, by decide⟩) hW hS hB ((hC.2.bl k (by omega)).1).1 (pAt_12 ((hC.2.bl k (by omega)).1).2) rfl rfl hl.1 rfl (Nat.le_of_ble_eq_true rfl) dX1_pass_34 ⟨Nat.le_of_ble_eq_true rfl, Nat.le_of_ble_eq_true rfl⟩ (fun r9 S4 H locs hp9 hW hS => ?_)
        obtain ⟨e8, e9⟩ := hp9
        rw [e8] at hW
        subst e9
        refine k_cast5 C hW hvh.1 hE.2.2.2.2.1 (show Cond.classLink RX1 57 "LeaseGates$Loan" ∈ wsX1_pass by decide +kernel) dX1_pass_37 ?_
        refine g_502 C hinX5 hW hvh.1 l59 dX1_pass_40 ?_
        refine top_i (show fI Sk 502 (cL ck h) = gk.1 10 h from hvh.2.2.2.1) ?_
        refine lv_iload_n hx hb dX1_pass_43 rfl (lv_at hl 3 rfl) ?_
        refine lv_icmp_le (tgt := 50) hx hb dX1_pass_44 (by decide) (fun c_44 => ?_) (fun c_44 => ?_)
        · have hsub1 : (gk.1 10 h - 1).toInt = (gk.1 10 h).toInt - 1 := i32_sub (by have : (1 : Int32).toInt = 1 := rfl; omega) (by have : (1 : Int32).toInt = 1 := rfl; omega)
          refine lv_aload_n hx hb dX1_pass_50 rfl (lv_at hl 1 rfl) ?_
          refine g_100 C hinX1 hW (hC.1.lay.bk k (by omega)) (hC.1.lay.r100 k (by omega)) l12 dX1_pass_51 ?_
          refine lv_iload hx hb dX1_pass_54 (lv_at hl 0 rfl) ?_
          refine k_callVq (As := [.int (nI j)]) (rest := []) C hml (c_Jx4a65c_get_915e3 (q := cL ck h) hA (by rw [List.length_map]; exact hj9) (by rw [List.getElem?_map, hh]; rfl)) (cwV 1 hts gX1_pass_Jx4a65c_get_915e3 rfl rfl rfl (by decide +kernel) ⟨by decide, by decide⟩) hW hS hB ((hC.2.bl k (by omega)).1).1 (pAt_12 ((hC.2.bl k (by omega)).1).2) rfl rfl hl.1 rfl (Nat.le_of_ble_eq_true rfl) dX1_pass_56 ⟨Nat.le_of_ble_eq_true rfl, Nat.le_of_ble_eq_true rfl⟩ (fun r9 S5 H locs hp9 hW hS => ?_)
          obtain ⟨e8, e9⟩ := hp9
          rw [e8] at hW
          subst e9
          refine k_cast5 C hW hvh.1 hE.2.2.2.2.1 (show Cond.classLink RX1 57 "LeaseGates$Loan" ∈ wsX1_pass by decide +kernel) dX1_pass_59 ?_
          refine g_502 C hinX5 hW hvh.1 l59 dX1_pass_62 ?_
          refine top_i (show fI Sk 502 (cL ck h) = gk.1 10 h from hvh.2.2.2.1) ?_
          refine lv_iconst (v := 1) hx hb dX1_pass_65 (by decide) ?_
          refine lv_isub hx hb dX1_pass_66 ?_
          refine lv_istore (lv' := [(6, .int ((gk.1 10 h) - 1)), (5, .int (nI j)), (0, .ref (y (40 + k))), (1, .int tm), (2, .int to), (3, .int x3), (4, .int (nI r))]) hx hb dX1_pass_67 hl (by decide) rfl (fun ls hl => ?_)
          refine lv_aload_n hx hb dX1_pass_69 rfl (lv_at hl 2 rfl) ?_
          refine lv_aload_n hx hb dX1_pass_70 rfl (lv_at hl 2 rfl) ?_
          refine g_101 C hinX1 hW (hC.1.lay.bk k (by omega)) l18 dX1_pass_71 ?_
          refine top_i (show fI Sk 101 (y (40 + k)) = gk.1 3 k from hC.1.b1 k (by omega)) ?_
          refine lv_i2l (v := (gk.1 3 k).toInt64) hx hb dX1_pass_74 rfl ?_
          refine lv_iload hx hb dX1_pass_75 (lv_at hl 0 rfl) ?_
          refine lv_iload_n hx hb dX1_pass_77 rfl (lv_at hl 5 rfl) ?_
          refine lv_isub hx hb dX1_pass_78 ?_
          refine lv_i2l (v := (((gk.1 10 h) - 1) - x3).toInt64) hx hb dX1_pass_79 rfl ?_
          refine lv_lmul hx hb dX1_pass_80 ?_
          refine k_callVv (As := [.long (((gk.1 3 k).toInt64) * ((((gk.1 10 h) - 1) - x3).toInt64))]) (rest := []) C hml (c_X1_fill (hC.1.lay.bk k hk8)) (cwV 1 hts gX1_pass_X1_fill rfl rfl rfl (by decide +kernel) ⟨by decide, by decide⟩) hW hS hB ((hC.1.lay.bk k (by omega))).1 (pAt_1 ((hC.1.lay.bk k (by omega))).2) rfl rfl hl.1 rfl (Nat.le_of_ble_eq_true rfl) dX1_pass_81 ⟨Nat.le_of_ble_eq_true rfl, Nat.le_of_ble_eq_true rfl⟩ (fun S6 H locs hp9 hW hS => ?_)
          have hF9 : CF S S6 y := by rw [hp9]; exact hF.sI (hC.1.lay.bk k hk8) (by decide)
          have hC9 : CR S6 y dE (kFill gk n k (((gk.1 3 k).toInt64) * ((((gk.1 10 h) - 1) - x3).toInt64))) (ck) := by rw [hp9]; exact hC.fill hk8 hCB hI (fill_pos hI hk8 (by rw [i32_sub (by rw [hsub1]; omega) (by rw [hsub1]; omega), hsub1]; omega))
          clear hC hF
          have hC := hC9
          have hF := hF9
          replace hI : BInv (kFill gk n k (((gk.1 3 k).toInt64) * ((((gk.1 10 h) - 1) - x3).toInt64))) n := hI.fill hn3 hk8
          replace hCB : CanB (ck) (kFill gk n k (((gk.1 3 k).toInt64) * ((((gk.1 10 h) - 1) - x3).toInt64))) n := hCB
          refine lv_aload_n hx hb dX1_pass_84 rfl (lv_at hl 2 rfl) ?_
          refine lv_iload hx hb dX1_pass_85 (lv_at hl 1 rfl) ?_
          refine k_callVv (As := [.int (nI j)]) (rest := []) C hml (c_X1_close (L := (lsB gk k n)) hC hE hk8 (hCB k hk8).1 hh) (cwV 1 hts gX1_pass_X1_close rfl rfl rfl (by decide +kernel) ⟨by decide, by decide⟩) hW hS hB ((hC.1.lay.bk k (by omega))).1 (pAt_1 ((hC.1.lay.bk k (by omega))).2) rfl rfl hl.1 rfl (Nat.le_of_ble_eq_true rfl) dX1_pass_87 ⟨Nat.le_of_ble_eq_true rfl, Nat.le_of_ble_eq_true rfl⟩ (fun S7 H locs hp9 hW hS => ?_)
          obtain ⟨c9, f9, k9, u1, u2, u3⟩ := hp9
          have hF9 := hF.tr f9
          obtain ⟨v1, v2⟩ := hCB.close hk8 hn3 hh u1 u2
          have hC9 : CR S7 y dE (iI (kFill gk n k (((gk.1 3 k).toInt64) * ((((gk.1 10 h) - 1) - x3).toInt64))) 9 h 0) c9 := k9.g9 v2
          clear hC hF
          have hC := hC9
          have hF := hF9
          replace hI : BInv (iI (kFill gk n k (((gk.1 3 k).toInt64) * ((((gk.1 10 h) - 1) - x3).toInt64))) 9 h 0) n := hI.z9
          replace hCB : CanB c9 (iI (kFill gk n k (((gk.1 3 k).toInt64) * ((((gk.1 10 h) - 1) - x3).toInt64))) 9 h 0) n := v1
          refine lv_iload hx hb dX1_pass_90 (lv_at hl 0 rfl) ?_
          refine lv_istore_n (lv' := [(3, .int ((gk.1 10 h) - 1)), (6, .int ((gk.1 10 h) - 1)), (5, .int (nI j)), (0, .ref (y (40 + k))), (1, .int tm), (2, .int to), (4, .int (nI r))]) hx hb dX1_pass_92 rfl hl (by decide) rfl (fun ls hl => ?_)
          refine lv_iinc (v := nI (r - 1)) (lv' := [(4, .int (nI (r - 1))), (3, .int ((gk.1 10 h) - 1)), (6, .int ((gk.1 10 h) - 1)), (5, .int (nI j)), (0, .ref (y (40 + k))), (1, .int tm), (2, .int to)]) hx hb dX1_pass_93 hl (k := 6) rfl (nI_dec (by omega)) (by decide) rfl (fun ls hl => ?_)
          refine lv_goto (tgt := 11) hx hb dX1_pass_96 (by decide) ?_
          exact ih_lp (gk.1 10 h - 1) (r - 1) (iI (kFill gk n k ((gk.1 3 k).toInt64 * (gk.1 10 h - 1 - x3).toInt64)) 9 h 0) c9 _ _ _ ls (by omega) hC hF hCB hI (u3.trans hP) (by rw [show lsB (iI (kFill gk n k ((gk.1 3 k).toInt64 * (gk.1 10 h - 1 - x3).toInt64)) 9 h 0) k n = (lsB gk k n).eraseIdx j from ((v1 k hk8).1.symm.trans (by rw [u1]; exact up_same _ _ _)), List.length_eraseIdx_of_lt hj9]; omega) (by rw [← hE9]; obtain ⟨r0, rfl⟩ : ∃ r0, r = r0 + 1 := ⟨r - 1, by omega⟩; rw [kPassD, if_neg (fun z => z.elim (fun u => by rw [u] at hr0; simp at hr0) (fun u => absurd (by rw [heh] at u; exact u) (Int32.not_lt.mpr c_44))), heh]; rfl) (by rw [hsub1]; have c9 := c_44; rw [Int32.le_iff_toInt_le] at c9; omega) (fun x hx => by
    have hx2 := mem_fil.mp hx
    have m9 : x ∈ lsB gk k n := by refine mem_fil.mpr ⟨hx2.1, hx2.2.1, fun z => hx2.2.2 ?_⟩; rw [iI9]; split; rfl; exact z
    obtain ⟨i9, i1, i2⟩ := List.mem_iff_getElem.mp m9
    have := hmin i9 x i1 (by rw [List.getElem?_eq_getElem i1, i2])
    rw [Int32.le_iff_toInt_le] at this
    rw [hsub1]; show (gk.1 10 h).toInt - 1 < (gk.1 10 x).toInt; omega) hW hS (lv_sub hl [4, 5, 6, 1, 0] rfl)
        · refine lv_goto (tgt := 99) hx hb dX1_pass_47 (by decide) ?_
          refine lv_aload_n hx hb dX1_pass_99 rfl (lv_at hl 1 rfl) ?_
          refine lv_aload_n hx hb dX1_pass_100 rfl (lv_at hl 1 rfl) ?_
          refine g_101 C hinX1 hW (hC.1.lay.bk k (by omega)) l18 dX1_pass_101 ?_
          refine top_i (show fI Sk 101 (y (40 + k)) = gk.1 3 k from hC.1.b1 k (by omega)) ?_
          refine lv_i2l (v := (gk.1 3 k).toInt64) hx hb dX1_pass_104 rfl ?_
          refine lv_iload_n hx hb dX1_pass_105 rfl (lv_at hl 3 rfl) ?_
          refine lv_iload_n hx hb dX1_pass_106 rfl (lv_at hl 4 rfl) ?_
          refine lv_isub hx hb dX1_pass_107 ?_
          refine lv_i2l (v := (to - x3).toInt64) hx hb dX1_pass_108 rfl ?_
          refine lv_lmul hx hb dX1_pass_109 ?_
          refine k_callVv (As := [.long (((gk.1 3 k).toInt64) * ((to - x3).toInt64))]) (rest := []) C hml (c_X1_fill (hC.1.lay.bk k hk8)) (cwV 1 hts gX1_pass_X1_fill rfl rfl rfl (by decide +kernel) ⟨by decide, by decide⟩) hW hS hB ((hC.1.lay.bk k (by omega))).1 (pAt_1 ((hC.1.lay.bk k (by omega))).2) rfl rfl hl.1 rfl (Nat.le_of_ble_eq_true rfl) dX1_pass_110 ⟨Nat.le_of_ble_eq_true rfl, Nat.le_of_ble_eq_true rfl⟩ (fun S8 H locs hp9 hW hS => ?_)
          have hF9 : CF S S8 y := by rw [hp9]; exact hF.sI (hC.1.lay.bk k hk8) (by decide)
          have hC9 : CR S8 y dE (kFill gk n k (((gk.1 3 k).toInt64) * ((to - x3).toInt64))) (ck) := by rw [hp9]; exact hC.fill hk8 hCB hI (fill_pos hI hk8 (by rw [i32_sub (by omega) (by omega)]; omega))
          clear hC hF
          have hC := hC9
          have hF := hF9
          replace hI : BInv (kFill gk n k (((gk.1 3 k).toInt64) * ((to - x3).toInt64))) n := hI.fill hn3 hk8
          replace hCB : CanB (ck) (kFill gk n k (((gk.1 3 k).toInt64) * ((to - x3).toInt64))) n := hCB
          exact k_vret C hr hlk hW hS hB ⟨ck, hF, by rw [← hE9]; obtain ⟨r0, rfl⟩ : ∃ r0, r = r0 + 1 := ⟨r - 1, by omega⟩; rw [kPassD, if_pos (Or.inr (by rw [heh]; exact Int32.not_le.mp c_44))]; exact hC, by rw [← hE9]; obtain ⟨r0, rfl⟩ : ∃ r0, r = r0 + 1 := ⟨r - 1, by omega⟩; rw [kPassD, if_pos (Or.inr (by rw [heh]; exact Int32.not_le.mp c_44))]; exact hCB, hP⟩ (Nat.le_refl _) (Nat.le_refl _) dX1_pass_113
  exact lp (L.length + 1) tm L.length g c0 _ _ _ ls (Nat.lt_succ_self _) hC hF hCB hI rfl (by rw [hL0]) (by rw [hL0]; rfl) hat0 hend0 hW hS (lv_sub hl [2, 3, 4, 1, 0] rfl)
