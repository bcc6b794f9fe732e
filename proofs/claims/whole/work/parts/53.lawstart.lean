/-! the law's start -/
theorem MR.fr0 {S S2 : PS} {a : Nat} {t : Nat → Nat} {g : MS} (h : MR S a t g) (hF : Fr0 S S2) : MR S2 a t g := by
  obtain ⟨q1, -, q3, -⟩ := hF.2 a h.1.1.1 (fun z => z)
  refine ⟨⟨hF.1 _ _ h.1.1, fun e he => ?_, h.1.2.2⟩, fun j k hj => ?_, fun j k hj => ?_, fun f => (q1 f).trans (h.2.2.2 f)⟩
  · obtain ⟨a1, a2, a3⟩ := h.1.2.1 e he
    exact ⟨(q3 _).trans a1, hF.1 _ _ a2, ((hF.2 _ a2.1 (fun z => z)).2.2.2.1).trans a3⟩
  · obtain ⟨e, he, rfl⟩ := inTab_mem j hj
    exact (congrFun (hF.2 _ (h.1.2.1 e he).2.1.1 (fun z => z)).2.2.2.2.1 k).trans (h.2.1 _ k hj)
  · obtain ⟨e, he, rfl⟩ := inTab_mem j hj
    exact (congrFun (hF.2 _ (h.1.2.1 e he).2.1.1 (fun z => z)).2.2.2.2.2.1 k).trans (h.2.2.1 _ k hj)
def tabOr (t : Nat → Nat) (a : Nat) : Nat → Nat := fun j => if inTab j = true then t j else a
theorem MR.tab {S : PS} {a : Nat} {t : Nat → Nat} {g : MS} (h : MR S a t g) : MR S a (tabOr t a) g := by
  have tb : ∀ e ∈ mTab, inTab e.1 = true := by decide
  have e1 : ∀ j, inTab j = true → tabOr t a j = t j := fun j hj => if_pos hj
  refine ⟨⟨h.1.1, fun e he => ?_, fun i j hi hj e => ?_⟩, fun j k hj => ?_, fun j k hj => ?_, h.2.2.2⟩
  · rw [e1 _ (tb e he)]; exact h.1.2.1 e he
  · rw [e1 _ hi, e1 _ hj] at e; exact h.1.2.2 i j hi hj e
  · rw [e1 _ hj]; exact h.2.1 j k hj
  · rw [e1 _ hj]; exact h.2.2.1 j k hj
theorem start_lj {P S2 S3 : PS} {dE a a2 ob : Nat} {w t : Nat → Nat} (ha : a ∈ pL P) (hK : LgK S2 dE a w 6) (hN : NewW P S2 w 186) (h2 : a2 ∉ pL S2) (hM : MR S3 a2 t g0) (ht : ∀ j, t j ∉ pL (nO S2 a2 11)) (hF : Fr (nO S2 a2 11) S3 (fun x => x = a2)) (ho : ob ∉ pL S3) (hd : dE ∉ pL (nA S3 ob 14 1)) : LJ (nA S3 ob 14 1) a dE a2 ob 0 := by
  have f1 : Fr0 S2 S3 := Fr0.made h2 hF
  have f2 : Fr0 S3 (nA S3 ob 14 1) := Fr0.A ho
  have hN4 : NewW P (nA S3 ob 14 1) w 186 := ⟨fun i hi => ⟨(hN.1 i hi).1, f2.1.mem (f1.1.mem (hN.1 i hi).2)⟩, hN.2⟩
  obtain ⟨y, y0, yu, hC, hCB, hCH⟩ := start_cr ((hK.fr0 f1).fr0 f2) hN4 ha hd
  have y7 : y 7 = w 4 := yu 7 (by decide)
  have m7 : y 7 ∈ pL S2 := by rw [y7]; exact (hN.1 4 (by omega)).2
  refine ⟨y, tabOr t a2, g0, 0, fun _ => 0, cs0 dE, y0, ⟨hC, hCB, hCH⟩, (hM.fr0 f2).tab, start_inv, fun j e => ?_, fun j e => ?_, nA_is, nA_aN⟩
  · rw [← e] at m7
    unfold tabOr at m7
    split at m7
    · exact ht j ((nO_ext h2).mem m7)
    · exact h2 m7
  · apply ho
    rw [← e]
    unfold tabOr
    split
    · rename_i hj
      obtain ⟨q, hq, rfl⟩ := inTab_mem j hj
      exact (hM.1.2.1 q hq).2.1.1
    · exact hM.1.1.1
/-! what the tables say of the start -/
section ENV
variable {s : State} {b : Nat}
theorem arr_P {args : Array Value} {ty : FieldType} (h : (Cond.arrayClass ty).before args s = true) (hra : ∀ cA, s.vm.findClass ("[" ++ ty.toString) = some cA → va_RA s cA ty) : ∃ cA, ArrOfT s cA ty ∧ va_RA s cA ty := by
  obtain ⟨cA, kA, comp, hfind, hk, hkind⟩ := Cond.arrayClass_spec h
  exact ⟨cA, fun n z => ⟨fun k h => (by cases h), kA, hk, comp, hkind⟩, hra cA hfind⟩
theorem arr_O {args : Array Value} {C : String} (h : (Cond.arrayOver (.object C)).before args s = true) : ∃ cA, ArrOfT s cA (.object C) ∧ va_RA s cA (.object C) := by
  obtain ⟨comp, cA, kA, h1, h2, h3, h4, h5⟩ := Cond.arrayOver_spec h
  exact ⟨cA, fun n z => ⟨fun k h => (by cases h), kA, h3, comp, h4⟩, kA, comp, h3, h4, h1, h5⟩
set_option maxRecDepth 20000 in
theorem law_K (hts : ∀ w ∈ lw_tbl, w.before #[Value.ref b] s = true) : ∃ (D : va_G) (cy : Nat → ClassId), va_K D vwCl (tyW cy) s := by
  obtain ⟨c0, i0, k0⟩ := u_known (C := RJx4a65c) (T := TJx4a65c) (N := 3) (n := 3) hts i_wsJx4a65c0 (hts (.instantiable RJx4a65c 3) (by decide +kernel))
  obtain ⟨c1, i1, k1⟩ := u_known (C := RX0) (T := TX0) (N := 4) (n := 4) hts i_wsX00 (hts (.instantiable RX0 4) (by decide +kernel))
  obtain ⟨c2, i2, k2⟩ := u_known (C := RX1) (T := TX1) (N := 6) (n := 6) hts i_wsX10 (hts (.instantiable RX1 6) (by decide +kernel))
  obtain ⟨c3, i3, k3⟩ := u_known (C := RX2) (T := TX2) (N := 9) (n := 9) hts i_wsX20 (hts (.instantiable RX2 9) (by decide +kernel))
  obtain ⟨c4, i4, k4⟩ := u_known (C := RX3) (T := TX3) (N := 3) (n := 3) hts i_wsX30 (hts (.instantiable RX3 3) (by decide +kernel))
  obtain ⟨c5, i5, k5⟩ := u_known (C := RX4) (T := TX4) (N := 4) (n := 4) hts i_wsX40 (hts (.instantiable RX4 4) (by decide +kernel))
  obtain ⟨c6, i6, k6⟩ := u_known (C := RX5) (T := TX5) (N := 3) (n := 3) hts i_wsX50 (hts (.instantiable RX5 3) (by decide +kernel))
  obtain ⟨c7, i7, k7⟩ := u_known (C := RX6) (T := TX6) (N := 8) (n := 8) hts i_wsX60 (hts (.instantiable RX6 8) (by decide +kernel))
  obtain ⟨c8, i8, k8⟩ := u_known (C := RX7) (T := TX7) (N := 2) (n := 2) hts i_wsX70 (hts (.instantiable RX7 2) (by decide +kernel))
  obtain ⟨c9, i9, k9⟩ := u_known (C := RX8) (T := TX8) (N := 6) (n := 6) hts i_wsX80 (hts (.instantiable RX8 6) (by decide +kernel))
  obtain ⟨c10, i10, k10⟩ := u_known (C := RX9) (T := TX9) (N := 2) (n := 2) hts i_wsX90 (hts (.instantiable RX9 2) (by decide +kernel))
  obtain ⟨c11, i11, k11⟩ := u_known (C := RX10) (T := TX10) (N := 3) (n := 3) hts i_wsX100 (hts (.instantiable RX10 3) (by decide +kernel))
  obtain ⟨c12, i12, k12⟩ := u_known (C := RX11) (T := TX11) (N := 34) (n := 34) hts i_wsX110 (hts (.instantiable RX11 34) (by decide +kernel))
  obtain ⟨a0, r0⟩ := arr_P (ty := .int) (hts (.arrayClass .int) (by decide +kernel)) (fun _ h => h)
  obtain ⟨a1, r1⟩ := arr_P (ty := .long) (hts (.arrayClass .long) (by decide +kernel)) (fun _ h => h)
  obtain ⟨a2, r2⟩ := arr_P (ty := .boolean) (hts (.arrayClass .boolean) (by decide +kernel)) (fun _ h => h)
  obtain ⟨a3, r3⟩ := arr_O (C := "LeaseGates$Account") (hts (.arrayOver (.object "LeaseGates$Account")) (by decide +kernel))
  obtain ⟨a4, r4⟩ := arr_O (C := "LeaseGates$Bucket") (hts (.arrayOver (.object "LeaseGates$Bucket")) (by decide +kernel))
  obtain ⟨a5, r5⟩ := arr_O (C := "LeaseGates$Desk") (hts (.arrayOver (.object "LeaseGates$Desk")) (by decide +kernel))
  obtain ⟨a6, r6⟩ := arr_O (C := "LeaseGates$Gate") (hts (.arrayOver (.object "LeaseGates$Gate")) (by decide +kernel))
  obtain ⟨a7, r7⟩ := arr_O (C := "LeaseGates$Message") (hts (.arrayOver (.object "LeaseGates$Message")) (by decide +kernel))
  obtain ⟨a8, r8⟩ := arr_O (C := "java/lang/Object") (hts (.arrayOver (.object "java/lang/Object")) (by decide +kernel))
  refine ⟨(fun k => [c0, c1, c2, c3, c4, c5, c6, c7, c8, c9, c10, c11, c12].getD k c0, fun k => [i0, i1, i2, i3, i4, i5, i6, i7, i8, i9, i10, i11, i12].getD k i0), fun k => [a0, a1, a2, a3, a4, a5, a6, a7, a8].getD k a0, ?_, ?_⟩
  · intro k q hq
    match k, hq with
    | 0, hq => cases hq; exact k0
    | 1, hq => cases hq; exact k1
    | 2, hq => cases hq; exact k2
    | 3, hq => cases hq; exact k3
    | 4, hq => cases hq; exact k4
    | 5, hq => cases hq; exact k5
    | 6, hq => cases hq; exact k6
    | 7, hq => cases hq; exact k7
    | 8, hq => cases hq; exact k8
    | 9, hq => cases hq; exact k9
    | 10, hq => cases hq; exact k10
    | 11, hq => cases hq; exact k11
    | 12, hq => cases hq; exact k12
    | k + 13, hq => simp at hq
  · intro k q hq
    match k, hq with
    | 0, hq => cases hq; exact r0
    | 1, hq => cases hq; exact r1
    | 2, hq => cases hq; exact r2
    | 3, hq => cases hq; exact r3
    | 4, hq => cases hq; exact r4
    | 5, hq => cases hq; exact r5
    | 6, hq => cases hq; exact r6
    | 7, hq => cases hq; exact r7
    | 8, hq => cases hq; exact r8
    | k + 9, hq => simp at hq
set_option maxRecDepth 20000 in
theorem law_A (hts : ∀ w ∈ lw_tbl, w.before #[Value.ref b] s = true) : EnvA s :=
  ⟨va_AO.of (hts (.arrayOver (.object "LeaseGates$Account")) (by decide +kernel)), va_AO.of (hts (.arrayOver (.object "LeaseGates$Bucket")) (by decide +kernel)), va_AO.of (hts (.arrayOver (.object "LeaseGates$Desk")) (by decide +kernel)), va_AO.of (hts (.arrayOver (.object "LeaseGates$Gate")) (by decide +kernel)), va_AO.of (hts (.arrayOver (.object "LeaseGates$Message")) (by decide +kernel)), va_Nw.of rfl (hts (.methodLinkNest RX10 18 yX7_init "LeaseGates") (by decide +kernel)), va_Nw.of rfl (hts (.methodLinkNest RX3 11 yX9_init "LeaseGates") (by decide +kernel)), va_Nw.of rfl (hts (.methodLinkNest RX8 11 yX9_init "LeaseGates") (by decide +kernel)), va_Nw.of rfl (hts (.methodLinkNest RX8 38 yX1_init "LeaseGates") (by decide +kernel)), va_Nw.of rfl (hts (.methodLinkNest RX8 39 yX0_init "LeaseGates") (by decide +kernel))⟩
set_option maxRecDepth 20000 in
theorem law_C (hts : ∀ w ∈ lw_tbl, w.before #[Value.ref b] s = true) (hgv : (Jvm.Cond.and given_1 narrow_1).before #[Value.ref b] s = true) : ∃ dE mi, EnvC dE mi s.heap.size s := by
  have hs := flat_of_before _ hgv
  have hA : ∀ a : Nat, a < s.heap.size → ¬ Aw s.heap.size a := fun a h => Nat.not_le.mpr h
  have h1 : (Cond.arrayOf (.static "java/util/ArrayList" "DEFAULTCAPACITY_EMPTY_ELEMENTDATA" "[Ljava/lang/Object;") (.object "java/lang/Object")).before #[Value.ref b] s = true := hs _ (by decide +kernel)
  have h2 : (Cond.eq (.length (.static "java/util/ArrayList" "DEFAULTCAPACITY_EMPTY_ELEMENTDATA" "[Ljava/lang/Object;")) (.int 0)).before #[Value.ref b] s = true := hs _ (by decide +kernel)
  have h3 : (Cond.isRef (.mirror "[Ljava/lang/Object;")).before #[Value.ref b] s = true := hs _ (by decide +kernel)
  obtain ⟨dE, e1, hT⟩ := va_Tof (N := 0) (f := fun _ => .null) (A := Aw s.heap.size) (by decide) h1 (va_eqt h2) (fun j hj => absurd hj (Nat.not_lt_zero j)) hA
  have hZ := va_Zof (hts (.laysStatic "java/util/ArrayList" "DEFAULTCAPACITY_EMPTY_ELEMENTDATA" "[Ljava/lang/Object;") (by decide +kernel)) (hts (.initialized "java/util/ArrayList") (by decide +kernel)) e1 hA
  obtain ⟨mi, hmi⟩ := va_Mi.of h3
  have hlt : dE < s.heap.size := hT.elim (fun cell z => (Array.getElem?_eq_some_iff.mp z.1).1)
  exact ⟨dE, mi, ⟨hZ, hT, hlt⟩, va_Nw.of rfl (hts (.castable "LeaseGates$Hold" "java/lang/Object") (by decide +kernel)), va_Nw.of rfl (hts (.castable "LeaseGates$Loan" "java/lang/Object") (by decide +kernel)), va_Nw.of rfl (hts (.castable "LeaseGates$Hold" "LeaseGates$Hold") (by decide +kernel)), va_Nw.of rfl (hts (.castable "LeaseGates$Loan" "LeaseGates$Loan") (by decide +kernel)), hmi, va_Dc.of (hts (.declares ⟨"java/lang/Object", "getClass", "()Ljava/lang/Class;"⟩) (by decide +kernel)), va_AO.of (hts (.arrayOver (.object "java/lang/Object")) (by decide +kernel))⟩
set_option maxRecDepth 20000 in
theorem law_X (hts : ∀ w ∈ lw_tbl, w.before #[Value.ref b] s = true) (hgv : (Jvm.Cond.and given_1 narrow_1).before #[Value.ref b] s = true) : EnvX s.heap.size s := by
  have hs := flat_of_before _ hgv
  have hA : ∀ a : Nat, a < s.heap.size → ¬ Aw s.heap.size a := fun a h => Nat.not_le.mpr h
  have h1 : (Cond.exactly (.string "LeaseGates" 199) "java/lang/String").before #[Value.ref b] s = true := hs _ (by decide +kernel)
  have h2 : (Cond.exactly (.string "LeaseGates" 194) "java/lang/String").before #[Value.ref b] s = true := hs _ (by decide +kernel)
  have h3 : (Cond.isRef (.static Bundle.tN "UNASSIGNED_STACK" Bundle.steD)).before #[Value.ref b] s = true := hs _ (by decide +kernel)
  have h4 : (Cond.isRef (.static Bundle.tN "SUPPRESSED_SENTINEL" Bundle.listD)).before #[Value.ref b] s = true := hs _ (by decide +kernel)
  obtain ⟨x1, -, -, -, q1, -⟩ := Cond.exactly_spec (args := #[Value.ref b]) (first := s) (o := none) (s := s) (idx := []) (t := .string "LeaseGates" 199) (cls := "java/lang/String") h1
  obtain ⟨x2, -, -, -, q2, -⟩ := Cond.exactly_spec (args := #[Value.ref b]) (first := s) (o := none) (s := s) (idx := []) (t := .string "LeaseGates" 194) (cls := "java/lang/String") h2
  exact ⟨⟨x1, vk_R.of (A := #[Value.ref b]) (hts (.stringRef RX10 199 "a number is none of those that the document tells") (by decide +kernel)) q1⟩, ⟨x2, vk_R.of (A := #[Value.ref b]) (hts (.stringRef RX10 194 "there is no such message") (by decide +kernel)) q2⟩, vx_Zqof (hts (.laysStatic Bundle.tN "UNASSIGNED_STACK" Bundle.steD) (by decide +kernel)) (hts (.initialized Bundle.tN) (by decide +kernel)) h3 hA, vx_Zqof (hts (.laysStatic Bundle.tN "SUPPRESSED_SENTINEL" Bundle.listD) (by decide +kernel)) (hts (.initialized Bundle.tN) (by decide +kernel)) h4 hA, va_Nw.of rfl (hts (.castable IAE IAE) (by decide +kernel)), va_Nw.of rfl (hts (.declares (Bundle.initS "java/lang/RuntimeException")) (by decide +kernel)), va_Nw.of rfl (hts (.declares (Bundle.initS "java/lang/Exception")) (by decide +kernel)), va_Nw.of rfl (hts (.declares (Bundle.initS Bundle.tN)) (by decide +kernel))⟩
end ENV
