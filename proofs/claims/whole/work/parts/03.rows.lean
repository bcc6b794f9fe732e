section ROWS
variable {p : Program} {l : Launch} {e : Env} {R : Room} {s : State} {m : MethodId} {args : Array Value} {below : List Frame} {meth : Method} {c : Code} {H : Heap} {locs : List Loc} {cells slots : Nat} {Q : State → Prop} {cc : ByteArray} {pc : Nat} {ls : Array Slot} {rest : List Value} {D : va_G} {cy : Nat → ClassId} {B : Nat} {S : PS} {Ts : List Cond} {own : String} {H0 : Heap} {s0 : State}
theorem a_Iload (C : Cx p s m args c cc Ts own D cy B s0) (hW : PW D cy B S H) {a j n : Nat} {i : Int32} (hA : IsAt S 13 a) (hn : aN S a = n) (hi : i = nI j) (hj : j < n) (hb31 : n < 2 ^ 31) (hdg : decode cc pc = .ok (.iaload, 1)) (kk : W p l e R s m args below meth c H locs cells slots Q (F0 m (pc + 1) ls (.int (aI S a j) :: rest))) : W p l e R s m args below meth c H locs cells slots Q (F0 m pc ls (.int i :: .ref a :: rest)) := by
  subst hi hn
  obtain ⟨hx, hb, hts, hown, hK, hEn⟩ := C
  obtain ⟨k0, hk0⟩ := va_pl_get (X := []) (f := pF cy S) hA.1
  rw [pAt_13 hA.2] at hk0
  refine va_iald hx hb hK hW.1 k0 0 hk0 rfl (vp_in_nI hj hb31) hdg ?_
  rw [nI_clamp (Nat.lt_trans hj hb31)]
  exact kk
theorem a_Jload (C : Cx p s m args c cc Ts own D cy B s0) (hW : PW D cy B S H) {a j n : Nat} {i : Int32} (hA : IsAt S 14 a) (hn : aN S a = n) (hi : i = nI j) (hj : j < n) (hb31 : n < 2 ^ 31) (hdg : decode cc pc = .ok (.laload, 1)) (kk : W p l e R s m args below meth c H locs cells slots Q (F0 m (pc + 1) ls (.long (aJ S a j) :: rest))) : W p l e R s m args below meth c H locs cells slots Q (F0 m pc ls (.int i :: .ref a :: rest)) := by
  subst hi hn
  obtain ⟨hx, hb, hts, hown, hK, hEn⟩ := C
  obtain ⟨k0, hk0⟩ := va_pl_get (X := []) (f := pF cy S) hA.1
  rw [pAt_14 hA.2] at hk0
  refine va_lald hx hb hK hW.1 k0 1 hk0 rfl (vp_in_nI hj hb31) hdg ?_
  rw [nI_clamp (Nat.lt_trans hj hb31)]
  exact kk
theorem a_Zload (C : Cx p s m args c cc Ts own D cy B s0) (hW : PW D cy B S H) {a j n : Nat} {i : Int32} (hA : IsAt S 15 a) (hn : aN S a = n) (hi : i = nI j) (hj : j < n) (hb31 : n < 2 ^ 31) (hdg : decode cc pc = .ok (.baload, 1)) (kk : W p l e R s m args below meth c H locs cells slots Q (F0 m (pc + 1) ls (.int (aI S a j) :: rest))) : W p l e R s m args below meth c H locs cells slots Q (F0 m pc ls (.int i :: .ref a :: rest)) := by
  subst hi hn
  obtain ⟨hx, hb, hts, hown, hK, hEn⟩ := C
  obtain ⟨k0, hk0⟩ := va_pl_get (X := []) (f := pF cy S) hA.1
  rw [pAt_15 hA.2] at hk0
  refine va_zald hx hb hK hW.1 k0 2 hk0 rfl (vp_in_nI hj hb31) hdg ?_
  rw [nI_clamp (Nat.lt_trans hj hb31)]
  exact kk
theorem a_Accountload (C : Cx p s m args c cc Ts own D cy B s0) (hW : PW D cy B S H) {a j n : Nat} {i : Int32} (hA : IsAt S 16 a) (hn : aN S a = n) (hi : i = nI j) (hj : j < n) (hb31 : n < 2 ^ 31) {q : Nat} (hq : aQ S a j = some q) (hdg : decode cc pc = .ok (.aaload, 1)) (kk : W p l e R s m args below meth c H locs cells slots Q (F0 m (pc + 1) ls (.ref q :: rest))) : W p l e R s m args below meth c H locs cells slots Q (F0 m pc ls (.int i :: .ref a :: rest)) := by
  subst hi hn
  obtain ⟨hx, hb, hts, hown, hK, hEn⟩ := C
  obtain ⟨k0, hk0⟩ := va_pl_get (X := []) (f := pF cy S) hA.1
  rw [pAt_16 hA.2] at hk0
  refine va_aldq hx hb hK hW.1 k0 3 hk0 rfl (vp_in_nI hj hb31) hdg ?_
  rw [nI_clamp (Nat.lt_trans hj hb31)]
  rw [hq]; exact kk
theorem a_Bucketload (C : Cx p s m args c cc Ts own D cy B s0) (hW : PW D cy B S H) {a j n : Nat} {i : Int32} (hA : IsAt S 17 a) (hn : aN S a = n) (hi : i = nI j) (hj : j < n) (hb31 : n < 2 ^ 31) {q : Nat} (hq : aQ S a j = some q) (hdg : decode cc pc = .ok (.aaload, 1)) (kk : W p l e R s m args below meth c H locs cells slots Q (F0 m (pc + 1) ls (.ref q :: rest))) : W p l e R s m args below meth c H locs cells slots Q (F0 m pc ls (.int i :: .ref a :: rest)) := by
  subst hi hn
  obtain ⟨hx, hb, hts, hown, hK, hEn⟩ := C
  obtain ⟨k0, hk0⟩ := va_pl_get (X := []) (f := pF cy S) hA.1
  rw [pAt_17 hA.2] at hk0
  refine va_aldq hx hb hK hW.1 k0 4 hk0 rfl (vp_in_nI hj hb31) hdg ?_
  rw [nI_clamp (Nat.lt_trans hj hb31)]
  rw [hq]; exact kk
theorem a_Deskload (C : Cx p s m args c cc Ts own D cy B s0) (hW : PW D cy B S H) {a j n : Nat} {i : Int32} (hA : IsAt S 18 a) (hn : aN S a = n) (hi : i = nI j) (hj : j < n) (hb31 : n < 2 ^ 31) {q : Nat} (hq : aQ S a j = some q) (hdg : decode cc pc = .ok (.aaload, 1)) (kk : W p l e R s m args below meth c H locs cells slots Q (F0 m (pc + 1) ls (.ref q :: rest))) : W p l e R s m args below meth c H locs cells slots Q (F0 m pc ls (.int i :: .ref a :: rest)) := by
  subst hi hn
  obtain ⟨hx, hb, hts, hown, hK, hEn⟩ := C
  obtain ⟨k0, hk0⟩ := va_pl_get (X := []) (f := pF cy S) hA.1
  rw [pAt_18 hA.2] at hk0
  refine va_aldq hx hb hK hW.1 k0 5 hk0 rfl (vp_in_nI hj hb31) hdg ?_
  rw [nI_clamp (Nat.lt_trans hj hb31)]
  rw [hq]; exact kk
theorem a_Gateload (C : Cx p s m args c cc Ts own D cy B s0) (hW : PW D cy B S H) {a j n : Nat} {i : Int32} (hA : IsAt S 19 a) (hn : aN S a = n) (hi : i = nI j) (hj : j < n) (hb31 : n < 2 ^ 31) {q : Nat} (hq : aQ S a j = some q) (hdg : decode cc pc = .ok (.aaload, 1)) (kk : W p l e R s m args below meth c H locs cells slots Q (F0 m (pc + 1) ls (.ref q :: rest))) : W p l e R s m args below meth c H locs cells slots Q (F0 m pc ls (.int i :: .ref a :: rest)) := by
  subst hi hn
  obtain ⟨hx, hb, hts, hown, hK, hEn⟩ := C
  obtain ⟨k0, hk0⟩ := va_pl_get (X := []) (f := pF cy S) hA.1
  rw [pAt_19 hA.2] at hk0
  refine va_aldq hx hb hK hW.1 k0 6 hk0 rfl (vp_in_nI hj hb31) hdg ?_
  rw [nI_clamp (Nat.lt_trans hj hb31)]
  rw [hq]; exact kk
theorem a_Messageload (C : Cx p s m args c cc Ts own D cy B s0) (hW : PW D cy B S H) {a j n : Nat} {i : Int32} (hA : IsAt S 20 a) (hn : aN S a = n) (hi : i = nI j) (hj : j < n) (hb31 : n < 2 ^ 31) {q : Nat} (hq : aQ S a j = some q) (hdg : decode cc pc = .ok (.aaload, 1)) (kk : W p l e R s m args below meth c H locs cells slots Q (F0 m (pc + 1) ls (.ref q :: rest))) : W p l e R s m args below meth c H locs cells slots Q (F0 m pc ls (.int i :: .ref a :: rest)) := by
  subst hi hn
  obtain ⟨hx, hb, hts, hown, hK, hEn⟩ := C
  obtain ⟨k0, hk0⟩ := va_pl_get (X := []) (f := pF cy S) hA.1
  rw [pAt_20 hA.2] at hk0
  refine va_aldq hx hb hK hW.1 k0 7 hk0 rfl (vp_in_nI hj hb31) hdg ?_
  rw [nI_clamp (Nat.lt_trans hj hb31)]
  rw [hq]; exact kk
theorem a_MessageloadN (C : Cx p s m args c cc Ts own D cy B s0) (hW : PW D cy B S H) {a j n : Nat} {i : Int32} (hA : IsAt S 20 a) (hn : aN S a = n) (hi : i = nI j) (hj : j < n) (hb31 : n < 2 ^ 31) (hq : aQ S a j = none) (hdg : decode cc pc = .ok (.aaload, 1)) (kk : W p l e R s m args below meth c H locs cells slots Q (F0 m (pc + 1) ls (.null :: rest))) : W p l e R s m args below meth c H locs cells slots Q (F0 m pc ls (.int i :: .ref a :: rest)) := by
  subst hi hn
  obtain ⟨hx, hb, hts, hown, hK, hEn⟩ := C
  obtain ⟨k0, hk0⟩ := va_pl_get (X := []) (f := pF cy S) hA.1
  rw [pAt_20 hA.2] at hk0
  refine va_aldq hx hb hK hW.1 k0 7 hk0 rfl (vp_in_nI hj hb31) hdg ?_
  rw [nI_clamp (Nat.lt_trans hj hb31)]
  rw [hq]; exact kk
theorem a_Objectload (C : Cx p s m args c cc Ts own D cy B s0) (hW : PW D cy B S H) {a j n : Nat} {i : Int32} (hA : IsAt S 21 a) (hn : aN S a = n) (hi : i = nI j) (hj : j < n) (hb31 : n < 2 ^ 31) {q : Nat} (hq : aQ S a j = some q) (hdg : decode cc pc = .ok (.aaload, 1)) (kk : W p l e R s m args below meth c H locs cells slots Q (F0 m (pc + 1) ls (.ref q :: rest))) : W p l e R s m args below meth c H locs cells slots Q (F0 m pc ls (.int i :: .ref a :: rest)) := by
  subst hi hn
  obtain ⟨hx, hb, hts, hown, hK, hEn⟩ := C
  obtain ⟨k0, hk0⟩ := va_pl_get (X := []) (f := pF cy S) hA.1
  rw [pAt_21 hA.2] at hk0
  refine va_aldq hx hb hK hW.1 k0 8 hk0 rfl (vp_in_nI hj hb31) hdg ?_
  rw [nI_clamp (Nat.lt_trans hj hb31)]
  rw [hq]; exact kk
theorem a_ObjectloadN (C : Cx p s m args c cc Ts own D cy B s0) (hW : PW D cy B S H) {a j n : Nat} {i : Int32} (hA : IsAt S 21 a) (hn : aN S a = n) (hi : i = nI j) (hj : j < n) (hb31 : n < 2 ^ 31) (hq : aQ S a j = none) (hdg : decode cc pc = .ok (.aaload, 1)) (kk : W p l e R s m args below meth c H locs cells slots Q (F0 m (pc + 1) ls (.null :: rest))) : W p l e R s m args below meth c H locs cells slots Q (F0 m pc ls (.int i :: .ref a :: rest)) := by
  subst hi hn
  obtain ⟨hx, hb, hts, hown, hK, hEn⟩ := C
  obtain ⟨k0, hk0⟩ := va_pl_get (X := []) (f := pF cy S) hA.1
  rw [pAt_21 hA.2] at hk0
  refine va_aldq hx hb hK hW.1 k0 8 hk0 rfl (vp_in_nI hj hb31) hdg ?_
  rw [nI_clamp (Nat.lt_trans hj hb31)]
  rw [hq]; exact kk
theorem a_Istore (C : Cx p s m args c cc Ts own D cy B s0) (hW : PW D cy B S H) (hS : va_S (Aw B) H0 H locs) {a j n : Nat} {i : Int32} {v : Int32} (hA : IsAt S 13 a) (hn : aN S a = n) (hi : i = nI j) (hj : j < n) (hb31 : n < 2 ^ 31) (hdg : decode cc pc = .ok (.iastore, 1)) (kk : ∀ (S1 : PS) (H1 : Heap) (locs1 : List Loc), S1 = tI S a j v → PW D cy B S1 H1 → va_S (Aw B) H0 H1 locs1 → W p l e R s m args below meth c H1 locs1 cells slots Q (F0 m (pc + 1) ls rest)) : W p l e R s m args below meth c H locs cells slots Q (F0 m pc ls (.int v :: .int i :: .ref a :: rest)) := by
  subst hi hn
  obtain ⟨hx, hb, hts, hown, hK, hEn⟩ := C
  obtain ⟨hP, hD⟩ := hW
  obtain ⟨k0, hk0⟩ := va_pl_get (X := []) (f := pF cy S) hA.1
  have hk1 := hk0
  rw [pAt_13 hA.2] at hk0
  refine va_iast hx hb hK hP hD hS k0 0 hk0 rfl (vp_in_nI hj hb31) hdg (fun H1 locs1 hP1 hD1 hS1 => ?_)
  rw [nI_clamp (Nat.lt_trans hj hb31)] at hP1 hD1
  rw [pw_set (S2 := tI S a j v) hD hA.1 hk1 rfl (pF_up tI_off (by rw [pAt_13 (S := tI S a j v) hA.2]; rw [tI_s]; rfl))] at hP1 hD1
  exact kk _ H1 locs1 rfl ⟨hP1, hD1⟩ hS1
theorem a_Jstore (C : Cx p s m args c cc Ts own D cy B s0) (hW : PW D cy B S H) (hS : va_S (Aw B) H0 H locs) {a j n : Nat} {i : Int32} {v : Int64} (hA : IsAt S 14 a) (hn : aN S a = n) (hi : i = nI j) (hj : j < n) (hb31 : n < 2 ^ 31) (hdg : decode cc pc = .ok (.lastore, 1)) (kk : ∀ (S1 : PS) (H1 : Heap) (locs1 : List Loc), S1 = tJ S a j v → PW D cy B S1 H1 → va_S (Aw B) H0 H1 locs1 → W p l e R s m args below meth c H1 locs1 cells slots Q (F0 m (pc + 1) ls rest)) : W p l e R s m args below meth c H locs cells slots Q (F0 m pc ls (.long v :: .int i :: .ref a :: rest)) := by
  subst hi hn
  obtain ⟨hx, hb, hts, hown, hK, hEn⟩ := C
  obtain ⟨hP, hD⟩ := hW
  obtain ⟨k0, hk0⟩ := va_pl_get (X := []) (f := pF cy S) hA.1
  have hk1 := hk0
  rw [pAt_14 hA.2] at hk0
  refine va_last hx hb hK hP hD hS k0 1 hk0 rfl (vp_in_nI hj hb31) hdg (fun H1 locs1 hP1 hD1 hS1 => ?_)
  rw [nI_clamp (Nat.lt_trans hj hb31)] at hP1 hD1
  rw [pw_set (S2 := tJ S a j v) hD hA.1 hk1 rfl (pF_up tJ_off (by rw [pAt_14 (S := tJ S a j v) hA.2]; rw [tJ_s]; rfl))] at hP1 hD1
  exact kk _ H1 locs1 rfl ⟨hP1, hD1⟩ hS1
theorem a_Zstore (C : Cx p s m args c cc Ts own D cy B s0) (hW : PW D cy B S H) (hS : va_S (Aw B) H0 H locs) {a j n : Nat} {i : Int32} {v : Int32} (hA : IsAt S 15 a) (hn : aN S a = n) (hi : i = nI j) (hj : j < n) (hb31 : n < 2 ^ 31) (hbv : v = 0 ∨ v = 1) (hdg : decode cc pc = .ok (.bastore, 1)) (kk : ∀ (S1 : PS) (H1 : Heap) (locs1 : List Loc), S1 = tI S a j v → PW D cy B S1 H1 → va_S (Aw B) H0 H1 locs1 → W p l e R s m args below meth c H1 locs1 cells slots Q (F0 m (pc + 1) ls rest)) : W p l e R s m args below meth c H locs cells slots Q (F0 m pc ls (.int v :: .int i :: .ref a :: rest)) := by
  subst hi hn
  obtain ⟨hx, hb, hts, hown, hK, hEn⟩ := C
  obtain ⟨hP, hD⟩ := hW
  obtain ⟨k0, hk0⟩ := va_pl_get (X := []) (f := pF cy S) hA.1
  have hk1 := hk0
  rw [pAt_15 hA.2] at hk0
  refine va_zast hx hb hK hP hD hS k0 2 hk0 rfl (vp_in_nI hj hb31) hdg (fun H1 locs1 hP1 hD1 hS1 => ?_)
  rw [nI_clamp (Nat.lt_trans hj hb31)] at hP1 hD1
  rw [pw_set (S2 := tI S a j v) hD hA.1 hk1 rfl (pF_up tI_off (by rw [pAt_15 (S := tI S a j v) hA.2]; rw [tI_s, show vp_nar .boolean v = v from by rcases hbv with rfl | rfl <;> rfl]; rfl))] at hP1 hD1
  exact kk _ H1 locs1 rfl ⟨hP1, hD1⟩ hS1
theorem a_Accountstore (C : Cx p s m args c cc Ts own D cy B s0) (hW : PW D cy B S H) (hS : va_S (Aw B) H0 H locs) {a j n : Nat} {i : Int32} {q : Nat} (hA : IsAt S 16 a) (hn : aN S a = n) (hi : i = nI j) (hj : j < n) (hb31 : n < 2 ^ 31) (hq : IsAt S 0 q) (hdg : decode cc pc = .ok (.aastore, 1)) (kk : ∀ (S1 : PS) (H1 : Heap) (locs1 : List Loc), S1 = tQ S a j (some q) → PW D cy B S1 H1 → va_S (Aw B) H0 H1 locs1 → W p l e R s m args below meth c H1 locs1 cells slots Q (F0 m (pc + 1) ls rest)) : W p l e R s m args below meth c H locs cells slots Q (F0 m pc ls (.ref q :: .int i :: .ref a :: rest)) := by
  subst hi hn
  obtain ⟨hx, hb, hts, hown, hK, hEn⟩ := C
  obtain ⟨hP, hD⟩ := hW
  obtain ⟨k0, hk0⟩ := va_pl_get (X := []) (f := pF cy S) hA.1
  have hk1 := hk0
  rw [pAt_16 hA.2] at hk0
  obtain ⟨q0, hq0⟩ := va_pl_get (X := []) (f := pF cy S) hq.1
  rw [pAt_0 hq.2] at hq0
  refine va_astq hx hb hK hP hD hS k0 3 q0 1 hk0 rfl hq0 rfl (vp_in_nI hj hb31) hdg (fun H1 locs1 hP1 hD1 hS1 => ?_)
  rw [nI_clamp (Nat.lt_trans hj hb31)] at hP1 hD1
  rw [pw_set (S2 := tQ S a j (some q)) hD hA.1 hk1 rfl (pF_up tQ_off (by rw [pAt_16 (S := tQ S a j (some q)) hA.2]; rw [tQ_s]; rfl))] at hP1 hD1
  exact kk _ H1 locs1 rfl ⟨hP1, hD1⟩ hS1
theorem a_Bucketstore (C : Cx p s m args c cc Ts own D cy B s0) (hW : PW D cy B S H) (hS : va_S (Aw B) H0 H locs) {a j n : Nat} {i : Int32} {q : Nat} (hA : IsAt S 17 a) (hn : aN S a = n) (hi : i = nI j) (hj : j < n) (hb31 : n < 2 ^ 31) (hq : IsAt S 1 q) (hdg : decode cc pc = .ok (.aastore, 1)) (kk : ∀ (S1 : PS) (H1 : Heap) (locs1 : List Loc), S1 = tQ S a j (some q) → PW D cy B S1 H1 → va_S (Aw B) H0 H1 locs1 → W p l e R s m args below meth c H1 locs1 cells slots Q (F0 m (pc + 1) ls rest)) : W p l e R s m args below meth c H locs cells slots Q (F0 m pc ls (.ref q :: .int i :: .ref a :: rest)) := by
  subst hi hn
  obtain ⟨hx, hb, hts, hown, hK, hEn⟩ := C
  obtain ⟨hP, hD⟩ := hW
  obtain ⟨k0, hk0⟩ := va_pl_get (X := []) (f := pF cy S) hA.1
  have hk1 := hk0
  rw [pAt_17 hA.2] at hk0
  obtain ⟨q0, hq0⟩ := va_pl_get (X := []) (f := pF cy S) hq.1
  rw [pAt_1 hq.2] at hq0
  refine va_astq hx hb hK hP hD hS k0 4 q0 2 hk0 rfl hq0 rfl (vp_in_nI hj hb31) hdg (fun H1 locs1 hP1 hD1 hS1 => ?_)
  rw [nI_clamp (Nat.lt_trans hj hb31)] at hP1 hD1
  rw [pw_set (S2 := tQ S a j (some q)) hD hA.1 hk1 rfl (pF_up tQ_off (by rw [pAt_17 (S := tQ S a j (some q)) hA.2]; rw [tQ_s]; rfl))] at hP1 hD1
  exact kk _ H1 locs1 rfl ⟨hP1, hD1⟩ hS1
theorem a_Deskstore (C : Cx p s m args c cc Ts own D cy B s0) (hW : PW D cy B S H) (hS : va_S (Aw B) H0 H locs) {a j n : Nat} {i : Int32} {q : Nat} (hA : IsAt S 18 a) (hn : aN S a = n) (hi : i = nI j) (hj : j < n) (hb31 : n < 2 ^ 31) (hq : IsAt S 2 q) (hdg : decode cc pc = .ok (.aastore, 1)) (kk : ∀ (S1 : PS) (H1 : Heap) (locs1 : List Loc), S1 = tQ S a j (some q) → PW D cy B S1 H1 → va_S (Aw B) H0 H1 locs1 → W p l e R s m args below meth c H1 locs1 cells slots Q (F0 m (pc + 1) ls rest)) : W p l e R s m args below meth c H locs cells slots Q (F0 m pc ls (.ref q :: .int i :: .ref a :: rest)) := by
  subst hi hn
  obtain ⟨hx, hb, hts, hown, hK, hEn⟩ := C
  obtain ⟨hP, hD⟩ := hW
  obtain ⟨k0, hk0⟩ := va_pl_get (X := []) (f := pF cy S) hA.1
  have hk1 := hk0
  rw [pAt_18 hA.2] at hk0
  obtain ⟨q0, hq0⟩ := va_pl_get (X := []) (f := pF cy S) hq.1
  rw [pAt_2 hq.2] at hq0
  refine va_astq hx hb hK hP hD hS k0 5 q0 3 hk0 rfl hq0 rfl (vp_in_nI hj hb31) hdg (fun H1 locs1 hP1 hD1 hS1 => ?_)
  rw [nI_clamp (Nat.lt_trans hj hb31)] at hP1 hD1
  rw [pw_set (S2 := tQ S a j (some q)) hD hA.1 hk1 rfl (pF_up tQ_off (by rw [pAt_18 (S := tQ S a j (some q)) hA.2]; rw [tQ_s]; rfl))] at hP1 hD1
  exact kk _ H1 locs1 rfl ⟨hP1, hD1⟩ hS1
theorem a_Gatestore (C : Cx p s m args c cc Ts own D cy B s0) (hW : PW D cy B S H) (hS : va_S (Aw B) H0 H locs) {a j n : Nat} {i : Int32} {q : Nat} (hA : IsAt S 19 a) (hn : aN S a = n) (hi : i = nI j) (hj : j < n) (hb31 : n < 2 ^ 31) (hq : IsAt S 3 q) (hdg : decode cc pc = .ok (.aastore, 1)) (kk : ∀ (S1 : PS) (H1 : Heap) (locs1 : List Loc), S1 = tQ S a j (some q) → PW D cy B S1 H1 → va_S (Aw B) H0 H1 locs1 → W p l e R s m args below meth c H1 locs1 cells slots Q (F0 m (pc + 1) ls rest)) : W p l e R s m args below meth c H locs cells slots Q (F0 m pc ls (.ref q :: .int i :: .ref a :: rest)) := by
  subst hi hn
  obtain ⟨hx, hb, hts, hown, hK, hEn⟩ := C
  obtain ⟨hP, hD⟩ := hW
  obtain ⟨k0, hk0⟩ := va_pl_get (X := []) (f := pF cy S) hA.1
  have hk1 := hk0
  rw [pAt_19 hA.2] at hk0
  obtain ⟨q0, hq0⟩ := va_pl_get (X := []) (f := pF cy S) hq.1
  rw [pAt_3 hq.2] at hq0
  refine va_astq hx hb hK hP hD hS k0 6 q0 4 hk0 rfl hq0 rfl (vp_in_nI hj hb31) hdg (fun H1 locs1 hP1 hD1 hS1 => ?_)
  rw [nI_clamp (Nat.lt_trans hj hb31)] at hP1 hD1
  rw [pw_set (S2 := tQ S a j (some q)) hD hA.1 hk1 rfl (pF_up tQ_off (by rw [pAt_19 (S := tQ S a j (some q)) hA.2]; rw [tQ_s]; rfl))] at hP1 hD1
  exact kk _ H1 locs1 rfl ⟨hP1, hD1⟩ hS1
theorem a_Messagestore (C : Cx p s m args c cc Ts own D cy B s0) (hW : PW D cy B S H) (hS : va_S (Aw B) H0 H locs) {a j n : Nat} {i : Int32} {q : Nat} (hA : IsAt S 20 a) (hn : aN S a = n) (hi : i = nI j) (hj : j < n) (hb31 : n < 2 ^ 31) (hq : IsAt S 6 q) (hdg : decode cc pc = .ok (.aastore, 1)) (kk : ∀ (S1 : PS) (H1 : Heap) (locs1 : List Loc), S1 = tQ S a j (some q) → PW D cy B S1 H1 → va_S (Aw B) H0 H1 locs1 → W p l e R s m args below meth c H1 locs1 cells slots Q (F0 m (pc + 1) ls rest)) : W p l e R s m args below meth c H locs cells slots Q (F0 m pc ls (.ref q :: .int i :: .ref a :: rest)) := by
  subst hi hn
  obtain ⟨hx, hb, hts, hown, hK, hEn⟩ := C
  obtain ⟨hP, hD⟩ := hW
  obtain ⟨k0, hk0⟩ := va_pl_get (X := []) (f := pF cy S) hA.1
  have hk1 := hk0
  rw [pAt_20 hA.2] at hk0
  obtain ⟨q0, hq0⟩ := va_pl_get (X := []) (f := pF cy S) hq.1
  rw [pAt_6 hq.2] at hq0
  refine va_astq hx hb hK hP hD hS k0 7 q0 7 hk0 rfl hq0 rfl (vp_in_nI hj hb31) hdg (fun H1 locs1 hP1 hD1 hS1 => ?_)
  rw [nI_clamp (Nat.lt_trans hj hb31)] at hP1 hD1
  rw [pw_set (S2 := tQ S a j (some q)) hD hA.1 hk1 rfl (pF_up tQ_off (by rw [pAt_20 (S := tQ S a j (some q)) hA.2]; rw [tQ_s]; rfl))] at hP1 hD1
  exact kk _ H1 locs1 rfl ⟨hP1, hD1⟩ hS1
theorem a_MessagestoreN (C : Cx p s m args c cc Ts own D cy B s0) (hW : PW D cy B S H) (hS : va_S (Aw B) H0 H locs) {a j n : Nat} {i : Int32}  (hA : IsAt S 20 a) (hn : aN S a = n) (hi : i = nI j) (hj : j < n) (hb31 : n < 2 ^ 31) (hdg : decode cc pc = .ok (.aastore, 1)) (kk : ∀ (S1 : PS) (H1 : Heap) (locs1 : List Loc), S1 = tQ S a j none → PW D cy B S1 H1 → va_S (Aw B) H0 H1 locs1 → W p l e R s m args below meth c H1 locs1 cells slots Q (F0 m (pc + 1) ls rest)) : W p l e R s m args below meth c H locs cells slots Q (F0 m pc ls (.null :: .int i :: .ref a :: rest)) := by
  subst hi hn
  obtain ⟨hx, hb, hts, hown, hK, hEn⟩ := C
  obtain ⟨hP, hD⟩ := hW
  obtain ⟨k0, hk0⟩ := va_pl_get (X := []) (f := pF cy S) hA.1
  have hk1 := hk0
  rw [pAt_20 hA.2] at hk0
  refine va_astqN hx hb hK hP hD hS k0 7 hk0 rfl (vp_in_nI hj hb31) hdg (fun H1 locs1 hP1 hD1 hS1 => ?_)
  rw [nI_clamp (Nat.lt_trans hj hb31)] at hP1 hD1
  rw [pw_set (S2 := tQ S a j none) hD hA.1 hk1 rfl (pF_up tQ_off (by rw [pAt_20 (S := tQ S a j none) hA.2]; rw [tQ_s]; rfl))] at hP1 hD1
  exact kk _ H1 locs1 rfl ⟨hP1, hD1⟩ hS1
theorem a_Ilen (C : Cx p s m args c cc Ts own D cy B s0) (hW : PW D cy B S H) {a : Nat} {v : Int32} (hA : IsAt S 13 a) (hv : nI (aN S a) = v) (hdg : decode cc pc = .ok (.arraylength, 1)) (kk : W p l e R s m args below meth c H locs cells slots Q (F0 m (pc + 1) ls (.int v :: rest))) : W p l e R s m args below meth c H locs cells slots Q (F0 m pc ls (.ref a :: rest)) := by
  obtain ⟨hx, hb, hts, hown, hK, hEn⟩ := C
  obtain ⟨k0, hk0⟩ := va_pl_get (X := []) (f := pF cy S) hA.1
  rw [pAt_13 hA.2] at hk0
  exact va_alen hx hb hK hW.1 k0 0 hk0 rfl hv hdg kk
theorem a_Jlen (C : Cx p s m args c cc Ts own D cy B s0) (hW : PW D cy B S H) {a : Nat} {v : Int32} (hA : IsAt S 14 a) (hv : nI (aN S a) = v) (hdg : decode cc pc = .ok (.arraylength, 1)) (kk : W p l e R s m args below meth c H locs cells slots Q (F0 m (pc + 1) ls (.int v :: rest))) : W p l e R s m args below meth c H locs cells slots Q (F0 m pc ls (.ref a :: rest)) := by
  obtain ⟨hx, hb, hts, hown, hK, hEn⟩ := C
  obtain ⟨k0, hk0⟩ := va_pl_get (X := []) (f := pF cy S) hA.1
  rw [pAt_14 hA.2] at hk0
  exact va_alen hx hb hK hW.1 k0 1 hk0 rfl hv hdg kk
theorem a_Zlen (C : Cx p s m args c cc Ts own D cy B s0) (hW : PW D cy B S H) {a : Nat} {v : Int32} (hA : IsAt S 15 a) (hv : nI (aN S a) = v) (hdg : decode cc pc = .ok (.arraylength, 1)) (kk : W p l e R s m args below meth c H locs cells slots Q (F0 m (pc + 1) ls (.int v :: rest))) : W p l e R s m args below meth c H locs cells slots Q (F0 m pc ls (.ref a :: rest)) := by
  obtain ⟨hx, hb, hts, hown, hK, hEn⟩ := C
  obtain ⟨k0, hk0⟩ := va_pl_get (X := []) (f := pF cy S) hA.1
  rw [pAt_15 hA.2] at hk0
  exact va_alen hx hb hK hW.1 k0 2 hk0 rfl hv hdg kk
theorem a_Accountlen (C : Cx p s m args c cc Ts own D cy B s0) (hW : PW D cy B S H) {a : Nat} {v : Int32} (hA : IsAt S 16 a) (hv : nI (aN S a) = v) (hdg : decode cc pc = .ok (.arraylength, 1)) (kk : W p l e R s m args below meth c H locs cells slots Q (F0 m (pc + 1) ls (.int v :: rest))) : W p l e R s m args below meth c H locs cells slots Q (F0 m pc ls (.ref a :: rest)) := by
  obtain ⟨hx, hb, hts, hown, hK, hEn⟩ := C
  obtain ⟨k0, hk0⟩ := va_pl_get (X := []) (f := pF cy S) hA.1
  rw [pAt_16 hA.2] at hk0
  exact va_alen hx hb hK hW.1 k0 3 hk0 rfl hv hdg kk
theorem a_Bucketlen (C : Cx p s m args c cc Ts own D cy B s0) (hW : PW D cy B S H) {a : Nat} {v : Int32} (hA : IsAt S 17 a) (hv : nI (aN S a) = v) (hdg : decode cc pc = .ok (.arraylength, 1)) (kk : W p l e R s m args below meth c H locs cells slots Q (F0 m (pc + 1) ls (.int v :: rest))) : W p l e R s m args below meth c H locs cells slots Q (F0 m pc ls (.ref a :: rest)) := by
  obtain ⟨hx, hb, hts, hown, hK, hEn⟩ := C
  obtain ⟨k0, hk0⟩ := va_pl_get (X := []) (f := pF cy S) hA.1
  rw [pAt_17 hA.2] at hk0
  exact va_alen hx hb hK hW.1 k0 4 hk0 rfl hv hdg kk
theorem a_Desklen (C : Cx p s m args c cc Ts own D cy B s0) (hW : PW D cy B S H) {a : Nat} {v : Int32} (hA : IsAt S 18 a) (hv : nI (aN S a) = v) (hdg : decode cc pc = .ok (.arraylength, 1)) (kk : W p l e R s m args below meth c H locs cells slots Q (F0 m (pc + 1) ls (.int v :: rest))) : W p l e R s m args below meth c H locs cells slots Q (F0 m pc ls (.ref a :: rest)) := by
  obtain ⟨hx, hb, hts, hown, hK, hEn⟩ := C
  obtain ⟨k0, hk0⟩ := va_pl_get (X := []) (f := pF cy S) hA.1
  rw [pAt_18 hA.2] at hk0
  exact va_alen hx hb hK hW.1 k0 5 hk0 rfl hv hdg kk
theorem a_Gatelen (C : Cx p s m args c cc Ts own D cy B s0) (hW : PW D cy B S H) {a : Nat} {v : Int32} (hA : IsAt S 19 a) (hv : nI (aN S a) = v) (hdg : decode cc pc = .ok (.arraylength, 1)) (kk : W p l e R s m args below meth c H locs cells slots Q (F0 m (pc + 1) ls (.int v :: rest))) : W p l e R s m args below meth c H locs cells slots Q (F0 m pc ls (.ref a :: rest)) := by
  obtain ⟨hx, hb, hts, hown, hK, hEn⟩ := C
  obtain ⟨k0, hk0⟩ := va_pl_get (X := []) (f := pF cy S) hA.1
  rw [pAt_19 hA.2] at hk0
  exact va_alen hx hb hK hW.1 k0 6 hk0 rfl hv hdg kk
theorem a_Messagelen (C : Cx p s m args c cc Ts own D cy B s0) (hW : PW D cy B S H) {a : Nat} {v : Int32} (hA : IsAt S 20 a) (hv : nI (aN S a) = v) (hdg : decode cc pc = .ok (.arraylength, 1)) (kk : W p l e R s m args below meth c H locs cells slots Q (F0 m (pc + 1) ls (.int v :: rest))) : W p l e R s m args below meth c H locs cells slots Q (F0 m pc ls (.ref a :: rest)) := by
  obtain ⟨hx, hb, hts, hown, hK, hEn⟩ := C
  obtain ⟨k0, hk0⟩ := va_pl_get (X := []) (f := pF cy S) hA.1
  rw [pAt_20 hA.2] at hk0
  exact va_alen hx hb hK hW.1 k0 7 hk0 rfl hv hdg kk
theorem a_Objectlen (C : Cx p s m args c cc Ts own D cy B s0) (hW : PW D cy B S H) {a : Nat} {v : Int32} (hA : IsAt S 21 a) (hv : nI (aN S a) = v) (hdg : decode cc pc = .ok (.arraylength, 1)) (kk : W p l e R s m args below meth c H locs cells slots Q (F0 m (pc + 1) ls (.int v :: rest))) : W p l e R s m args below meth c H locs cells slots Q (F0 m pc ls (.ref a :: rest)) := by
  obtain ⟨hx, hb, hts, hown, hK, hEn⟩ := C
  obtain ⟨k0, hk0⟩ := va_pl_get (X := []) (f := pF cy S) hA.1
  rw [pAt_21 hA.2] at hk0
  exact va_alen hx hb hK hW.1 k0 8 hk0 rfl hv hdg kk
theorem pw_push {q : Nat} {x : va_E} {S2 : PS} {H1 : Heap} (hP : va_P D vwCl (wL cy S ++ [(q, x)]) H1) (hD : va_D (Aw B) (wL cy S ++ [(q, x)])) (hL2 : pL S2 = pL S ++ [q]) (hF2 : ∀ b, va_up (pF cy S) q x b = pF cy S2 b) : PW D cy B S2 H1 ∧ q ∉ pL S := by
  have hq : q ∉ pL S := va_pl_fresh2 (X := []) (f := pF cy S) hD
  have e : wL cy S ++ [(q, x)] = wL cy S2 := by
    show va_pl _ _ ++ _ = va_pl _ _
    rw [va_pl_push hq, hL2]
    exact va_pl_congr hF2
  rw [e] at hP hD
  exact ⟨⟨hP, hD⟩, hq⟩
theorem n_0 (C : Cx p s m args c cc Ts own D cy B s0) (hin : ∀ w ∈ wsX00, w ∈ Ts) (hW : PW D cy B S H) (hS : va_S (Aw B) H0 H locs) (hB : B ≤ H0.size) {index : Nat} (h1 : Cond.classLink own index RX0 ∈ Ts) (h2 : Cond.instantiable RX0 4 ∈ Ts) (h3 : Cond.initialized RX0 ∈ Ts) (hcells : cells + 1 ≤ R.cells) (hslots : slots + 4 ≤ R.slots) (hdg : decode cc pc = .ok (.new index, 3)) (kk : ∀ (q : Nat) (S1 : PS) (H1 : Heap), S1 = nO S q 0 → q ∉ pL S → PW D cy B S1 H1 → va_S (Aw B) H0 H1 locs → W p l e R s m args below meth c H1 locs (cells + 1) (slots + 4) Q (F0 m (pc + 3) ls (.ref q :: rest))) : W p l e R s m args below meth c H locs cells slots Q (F0 m pc ls rest) := by
  obtain ⟨hx, hb, hts, hown, hK, hEn⟩ := C
  refine va_new (fs := [.int 0, .int 0, .int 0, .null]) hx hb hts hin tyX0 tyX0_ok hown (hts _ h1) (hts _ h2) (hts _ h3) hK hW.1 hW.2 hS (fun q h => Nat.le_trans hB h) (ci := 1) rfl (fun j hj => by rcases (show j = 0 ∨ j = 1 ∨ j = 2 ∨ j = 3 by omega) with rfl | rfl | rfl | rfl <;> rfl) hcells hslots hdg (fun q H1 hP1 hD1 hS1 => ?_)
  obtain ⟨hW1, hq⟩ := pw_push (S2 := nO S q 0) hP1 hD1 rfl (pF_up nO_off (by rw [pAt_0 (S := nO S q 0) nO_is.2]; simp [nO_fI, nO_fJ, nO_fR, va_rf]))
  exact kk q _ H1 rfl hq hW1 hS1
theorem n_1 (C : Cx p s m args c cc Ts own D cy B s0) (hin : ∀ w ∈ wsX10, w ∈ Ts) (hW : PW D cy B S H) (hS : va_S (Aw B) H0 H locs) (hB : B ≤ H0.size) {index : Nat} (h1 : Cond.classLink own index RX1 ∈ Ts) (h2 : Cond.instantiable RX1 6 ∈ Ts) (h3 : Cond.initialized RX1 ∈ Ts) (hcells : cells + 1 ≤ R.cells) (hslots : slots + 6 ≤ R.slots) (hdg : decode cc pc = .ok (.new index, 3)) (kk : ∀ (q : Nat) (S1 : PS) (H1 : Heap), S1 = nO S q 1 → q ∉ pL S → PW D cy B S1 H1 → va_S (Aw B) H0 H1 locs → W p l e R s m args below meth c H1 locs (cells + 1) (slots + 6) Q (F0 m (pc + 3) ls (.ref q :: rest))) : W p l e R s m args below meth c H locs cells slots Q (F0 m pc ls rest) := by
  obtain ⟨hx, hb, hts, hown, hK, hEn⟩ := C
  refine va_new (fs := [.null, .int 0, .int 0, .int 0, .int 0, .int 0]) hx hb hts hin tyX1 tyX1_ok hown (hts _ h1) (hts _ h2) (hts _ h3) hK hW.1 hW.2 hS (fun q h => Nat.le_trans hB h) (ci := 2) rfl (fun j hj => by rcases (show j = 0 ∨ j = 1 ∨ j = 2 ∨ j = 3 ∨ j = 4 ∨ j = 5 by omega) with rfl | rfl | rfl | rfl | rfl | rfl <;> rfl) hcells hslots hdg (fun q H1 hP1 hD1 hS1 => ?_)
  obtain ⟨hW1, hq⟩ := pw_push (S2 := nO S q 1) hP1 hD1 rfl (pF_up nO_off (by rw [pAt_1 (S := nO S q 1) nO_is.2]; simp [nO_fI, nO_fJ, nO_fR, va_rf]))
  exact kk q _ H1 rfl hq hW1 hS1
theorem n_2 (C : Cx p s m args c cc Ts own D cy B s0) (hin : ∀ w ∈ wsX20, w ∈ Ts) (hW : PW D cy B S H) (hS : va_S (Aw B) H0 H locs) (hB : B ≤ H0.size) {index : Nat} (h1 : Cond.classLink own index RX2 ∈ Ts) (h2 : Cond.instantiable RX2 9 ∈ Ts) (h3 : Cond.initialized RX2 ∈ Ts) (hcells : cells + 1 ≤ R.cells) (hslots : slots + 9 ≤ R.slots) (hdg : decode cc pc = .ok (.new index, 3)) (kk : ∀ (q : Nat) (S1 : PS) (H1 : Heap), S1 = nO S q 2 → q ∉ pL S → PW D cy B S1 H1 → va_S (Aw B) H0 H1 locs → W p l e R s m args below meth c H1 locs (cells + 1) (slots + 9) Q (F0 m (pc + 3) ls (.ref q :: rest))) : W p l e R s m args below meth c H locs cells slots Q (F0 m pc ls rest) := by
  obtain ⟨hx, hb, hts, hown, hK, hEn⟩ := C
  refine va_new (fs := [.int 0, .int 0, .null, .int 0, .int 0, .int 0, .int 0, .int 0, .int 0]) hx hb hts hin tyX2 tyX2_ok hown (hts _ h1) (hts _ h2) (hts _ h3) hK hW.1 hW.2 hS (fun q h => Nat.le_trans hB h) (ci := 3) rfl (fun j hj => by rcases (show j = 0 ∨ j = 1 ∨ j = 2 ∨ j = 3 ∨ j = 4 ∨ j = 5 ∨ j = 6 ∨ j = 7 ∨ j = 8 by omega) with rfl | rfl | rfl | rfl | rfl | rfl | rfl | rfl | rfl <;> rfl) hcells hslots hdg (fun q H1 hP1 hD1 hS1 => ?_)
  obtain ⟨hW1, hq⟩ := pw_push (S2 := nO S q 2) hP1 hD1 rfl (pF_up nO_off (by rw [pAt_2 (S := nO S q 2) nO_is.2]; simp [nO_fI, nO_fJ, nO_fR, va_rf]))
  exact kk q _ H1 rfl hq hW1 hS1
theorem n_3 (C : Cx p s m args c cc Ts own D cy B s0) (hin : ∀ w ∈ wsX30, w ∈ Ts) (hW : PW D cy B S H) (hS : va_S (Aw B) H0 H locs) (hB : B ≤ H0.size) {index : Nat} (h1 : Cond.classLink own index RX3 ∈ Ts) (h2 : Cond.instantiable RX3 3 ∈ Ts) (h3 : Cond.initialized RX3 ∈ Ts) (hcells : cells + 1 ≤ R.cells) (hslots : slots + 3 ≤ R.slots) (hdg : decode cc pc = .ok (.new index, 3)) (kk : ∀ (q : Nat) (S1 : PS) (H1 : Heap), S1 = nO S q 3 → q ∉ pL S → PW D cy B S1 H1 → va_S (Aw B) H0 H1 locs → W p l e R s m args below meth c H1 locs (cells + 1) (slots + 3) Q (F0 m (pc + 3) ls (.ref q :: rest))) : W p l e R s m args below meth c H locs cells slots Q (F0 m pc ls rest) := by
  obtain ⟨hx, hb, hts, hown, hK, hEn⟩ := C
  refine va_new (fs := [.null, .null, .int 0]) hx hb hts hin tyX3 tyX3_ok hown (hts _ h1) (hts _ h2) (hts _ h3) hK hW.1 hW.2 hS (fun q h => Nat.le_trans hB h) (ci := 4) rfl (fun j hj => by rcases (show j = 0 ∨ j = 1 ∨ j = 2 by omega) with rfl | rfl | rfl <;> rfl) hcells hslots hdg (fun q H1 hP1 hD1 hS1 => ?_)
  obtain ⟨hW1, hq⟩ := pw_push (S2 := nO S q 3) hP1 hD1 rfl (pF_up nO_off (by rw [pAt_3 (S := nO S q 3) nO_is.2]; simp [nO_fI, nO_fJ, nO_fR, va_rf]))
  exact kk q _ H1 rfl hq hW1 hS1
theorem n_4 (C : Cx p s m args c cc Ts own D cy B s0) (hin : ∀ w ∈ wsX40, w ∈ Ts) (hW : PW D cy B S H) (hS : va_S (Aw B) H0 H locs) (hB : B ≤ H0.size) {index : Nat} (h1 : Cond.classLink own index RX4 ∈ Ts) (h2 : Cond.instantiable RX4 4 ∈ Ts) (h3 : Cond.initialized RX4 ∈ Ts) (hcells : cells + 1 ≤ R.cells) (hslots : slots + 4 ≤ R.slots) (hdg : decode cc pc = .ok (.new index, 3)) (kk : ∀ (q : Nat) (S1 : PS) (H1 : Heap), S1 = nO S q 4 → q ∉ pL S → PW D cy B S1 H1 → va_S (Aw B) H0 H1 locs → W p l e R s m args below meth c H1 locs (cells + 1) (slots + 4) Q (F0 m (pc + 3) ls (.ref q :: rest))) : W p l e R s m args below meth c H locs cells slots Q (F0 m pc ls rest) := by
  obtain ⟨hx, hb, hts, hown, hK, hEn⟩ := C
  refine va_new (fs := [.int 0, .int 0, .int 0, .int 0]) hx hb hts hin tyX4 tyX4_ok hown (hts _ h1) (hts _ h2) (hts _ h3) hK hW.1 hW.2 hS (fun q h => Nat.le_trans hB h) (ci := 5) rfl (fun j hj => by rcases (show j = 0 ∨ j = 1 ∨ j = 2 ∨ j = 3 by omega) with rfl | rfl | rfl | rfl <;> rfl) hcells hslots hdg (fun q H1 hP1 hD1 hS1 => ?_)
  obtain ⟨hW1, hq⟩ := pw_push (S2 := nO S q 4) hP1 hD1 rfl (pF_up nO_off (by rw [pAt_4 (S := nO S q 4) nO_is.2]; simp [nO_fI, nO_fJ, nO_fR, va_rf]))
  exact kk q _ H1 rfl hq hW1 hS1
theorem n_5 (C : Cx p s m args c cc Ts own D cy B s0) (hin : ∀ w ∈ wsX50, w ∈ Ts) (hW : PW D cy B S H) (hS : va_S (Aw B) H0 H locs) (hB : B ≤ H0.size) {index : Nat} (h1 : Cond.classLink own index RX5 ∈ Ts) (h2 : Cond.instantiable RX5 3 ∈ Ts) (h3 : Cond.initialized RX5 ∈ Ts) (hcells : cells + 1 ≤ R.cells) (hslots : slots + 3 ≤ R.slots) (hdg : decode cc pc = .ok (.new index, 3)) (kk : ∀ (q : Nat) (S1 : PS) (H1 : Heap), S1 = nO S q 5 → q ∉ pL S → PW D cy B S1 H1 → va_S (Aw B) H0 H1 locs → W p l e R s m args below meth c H1 locs (cells + 1) (slots + 3) Q (F0 m (pc + 3) ls (.ref q :: rest))) : W p l e R s m args below meth c H locs cells slots Q (F0 m pc ls rest) := by
  obtain ⟨hx, hb, hts, hown, hK, hEn⟩ := C
  refine va_new (fs := [.int 0, .int 0, .int 0]) hx hb hts hin tyX5 tyX5_ok hown (hts _ h1) (hts _ h2) (hts _ h3) hK hW.1 hW.2 hS (fun q h => Nat.le_trans hB h) (ci := 6) rfl (fun j hj => by rcases (show j = 0 ∨ j = 1 ∨ j = 2 by omega) with rfl | rfl | rfl <;> rfl) hcells hslots hdg (fun q H1 hP1 hD1 hS1 => ?_)
  obtain ⟨hW1, hq⟩ := pw_push (S2 := nO S q 5) hP1 hD1 rfl (pF_up nO_off (by rw [pAt_5 (S := nO S q 5) nO_is.2]; simp [nO_fI, nO_fJ, nO_fR, va_rf]))
  exact kk q _ H1 rfl hq hW1 hS1
theorem n_6 (C : Cx p s m args c cc Ts own D cy B s0) (hin : ∀ w ∈ wsX60, w ∈ Ts) (hW : PW D cy B S H) (hS : va_S (Aw B) H0 H locs) (hB : B ≤ H0.size) {index : Nat} (h1 : Cond.classLink own index RX6 ∈ Ts) (h2 : Cond.instantiable RX6 8 ∈ Ts) (h3 : Cond.initialized RX6 ∈ Ts) (hcells : cells + 1 ≤ R.cells) (hslots : slots + 8 ≤ R.slots) (hdg : decode cc pc = .ok (.new index, 3)) (kk : ∀ (q : Nat) (S1 : PS) (H1 : Heap), S1 = nO S q 6 → q ∉ pL S → PW D cy B S1 H1 → va_S (Aw B) H0 H1 locs → W p l e R s m args below meth c H1 locs (cells + 1) (slots + 8) Q (F0 m (pc + 3) ls (.ref q :: rest))) : W p l e R s m args below meth c H locs cells slots Q (F0 m pc ls rest) := by
  obtain ⟨hx, hb, hts, hown, hK, hEn⟩ := C
  refine va_new (fs := [.int 0, .int 0, .int 0, .int 0, .int 0, .int 0, .int 0, .int 0]) hx hb hts hin tyX6 tyX6_ok hown (hts _ h1) (hts _ h2) (hts _ h3) hK hW.1 hW.2 hS (fun q h => Nat.le_trans hB h) (ci := 7) rfl (fun j hj => by rcases (show j = 0 ∨ j = 1 ∨ j = 2 ∨ j = 3 ∨ j = 4 ∨ j = 5 ∨ j = 6 ∨ j = 7 by omega) with rfl | rfl | rfl | rfl | rfl | rfl | rfl | rfl <;> rfl) hcells hslots hdg (fun q H1 hP1 hD1 hS1 => ?_)
  obtain ⟨hW1, hq⟩ := pw_push (S2 := nO S q 6) hP1 hD1 rfl (pF_up nO_off (by rw [pAt_6 (S := nO S q 6) nO_is.2]; simp [nO_fI, nO_fJ, nO_fR, va_rf]))
  exact kk q _ H1 rfl hq hW1 hS1
theorem n_7 (C : Cx p s m args c cc Ts own D cy B s0) (hin : ∀ w ∈ wsX70, w ∈ Ts) (hW : PW D cy B S H) (hS : va_S (Aw B) H0 H locs) (hB : B ≤ H0.size) {index : Nat} (h1 : Cond.classLink own index RX7 ∈ Ts) (h2 : Cond.instantiable RX7 2 ∈ Ts) (h3 : Cond.initialized RX7 ∈ Ts) (hcells : cells + 1 ≤ R.cells) (hslots : slots + 2 ≤ R.slots) (hdg : decode cc pc = .ok (.new index, 3)) (kk : ∀ (q : Nat) (S1 : PS) (H1 : Heap), S1 = nO S q 7 → q ∉ pL S → PW D cy B S1 H1 → va_S (Aw B) H0 H1 locs → W p l e R s m args below meth c H1 locs (cells + 1) (slots + 2) Q (F0 m (pc + 3) ls (.ref q :: rest))) : W p l e R s m args below meth c H locs cells slots Q (F0 m pc ls rest) := by
  obtain ⟨hx, hb, hts, hown, hK, hEn⟩ := C
  refine va_new (fs := [.null, .int 0]) hx hb hts hin tyX7 tyX7_ok hown (hts _ h1) (hts _ h2) (hts _ h3) hK hW.1 hW.2 hS (fun q h => Nat.le_trans hB h) (ci := 8) rfl (fun j hj => by rcases (show j = 0 ∨ j = 1 by omega) with rfl | rfl <;> rfl) hcells hslots hdg (fun q H1 hP1 hD1 hS1 => ?_)
  obtain ⟨hW1, hq⟩ := pw_push (S2 := nO S q 7) hP1 hD1 rfl (pF_up nO_off (by rw [pAt_7 (S := nO S q 7) nO_is.2]; simp [nO_fI, nO_fJ, nO_fR, va_rf]))
  exact kk q _ H1 rfl hq hW1 hS1
theorem n_8 (C : Cx p s m args c cc Ts own D cy B s0) (hin : ∀ w ∈ wsX80, w ∈ Ts) (hW : PW D cy B S H) (hS : va_S (Aw B) H0 H locs) (hB : B ≤ H0.size) {index : Nat} (h1 : Cond.classLink own index RX8 ∈ Ts) (h2 : Cond.instantiable RX8 6 ∈ Ts) (h3 : Cond.initialized RX8 ∈ Ts) (hcells : cells + 1 ≤ R.cells) (hslots : slots + 6 ≤ R.slots) (hdg : decode cc pc = .ok (.new index, 3)) (kk : ∀ (q : Nat) (S1 : PS) (H1 : Heap), S1 = nO S q 8 → q ∉ pL S → PW D cy B S1 H1 → va_S (Aw B) H0 H1 locs → W p l e R s m args below meth c H1 locs (cells + 1) (slots + 6) Q (F0 m (pc + 3) ls (.ref q :: rest))) : W p l e R s m args below meth c H locs cells slots Q (F0 m pc ls rest) := by
  obtain ⟨hx, hb, hts, hown, hK, hEn⟩ := C
  refine va_new (fs := [.null, .null, .null, .null, .int 0, .int 0]) hx hb hts hin tyX8 tyX8_ok hown (hts _ h1) (hts _ h2) (hts _ h3) hK hW.1 hW.2 hS (fun q h => Nat.le_trans hB h) (ci := 9) rfl (fun j hj => by rcases (show j = 0 ∨ j = 1 ∨ j = 2 ∨ j = 3 ∨ j = 4 ∨ j = 5 by omega) with rfl | rfl | rfl | rfl | rfl | rfl <;> rfl) hcells hslots hdg (fun q H1 hP1 hD1 hS1 => ?_)
  obtain ⟨hW1, hq⟩ := pw_push (S2 := nO S q 8) hP1 hD1 rfl (pF_up nO_off (by rw [pAt_8 (S := nO S q 8) nO_is.2]; simp [nO_fI, nO_fJ, nO_fR, va_rf]))
  exact kk q _ H1 rfl hq hW1 hS1
theorem n_9 (C : Cx p s m args c cc Ts own D cy B s0) (hin : ∀ w ∈ wsX90, w ∈ Ts) (hW : PW D cy B S H) (hS : va_S (Aw B) H0 H locs) (hB : B ≤ H0.size) {index : Nat} (h1 : Cond.classLink own index RX9 ∈ Ts) (h2 : Cond.instantiable RX9 2 ∈ Ts) (h3 : Cond.initialized RX9 ∈ Ts) (hcells : cells + 1 ≤ R.cells) (hslots : slots + 2 ≤ R.slots) (hdg : decode cc pc = .ok (.new index, 3)) (kk : ∀ (q : Nat) (S1 : PS) (H1 : Heap), S1 = nO S q 9 → q ∉ pL S → PW D cy B S1 H1 → va_S (Aw B) H0 H1 locs → W p l e R s m args below meth c H1 locs (cells + 1) (slots + 2) Q (F0 m (pc + 3) ls (.ref q :: rest))) : W p l e R s m args below meth c H locs cells slots Q (F0 m pc ls rest) := by
  obtain ⟨hx, hb, hts, hown, hK, hEn⟩ := C
  refine va_new (fs := [.long 0, .int 0]) hx hb hts hin tyX9 tyX9_ok hown (hts _ h1) (hts _ h2) (hts _ h3) hK hW.1 hW.2 hS (fun q h => Nat.le_trans hB h) (ci := 10) rfl (fun j hj => by rcases (show j = 0 ∨ j = 1 by omega) with rfl | rfl <;> rfl) hcells hslots hdg (fun q H1 hP1 hD1 hS1 => ?_)
  obtain ⟨hW1, hq⟩ := pw_push (S2 := nO S q 9) hP1 hD1 rfl (pF_up nO_off (by rw [pAt_9 (S := nO S q 9) nO_is.2]; simp [nO_fI, nO_fJ, nO_fR, va_rf]))
  exact kk q _ H1 rfl hq hW1 hS1
theorem n_10 (C : Cx p s m args c cc Ts own D cy B s0) (hin : ∀ w ∈ wsX100, w ∈ Ts) (hW : PW D cy B S H) (hS : va_S (Aw B) H0 H locs) (hB : B ≤ H0.size) {index : Nat} (h1 : Cond.classLink own index RX10 ∈ Ts) (h2 : Cond.instantiable RX10 3 ∈ Ts) (h3 : Cond.initialized RX10 ∈ Ts) (hcells : cells + 1 ≤ R.cells) (hslots : slots + 3 ≤ R.slots) (hdg : decode cc pc = .ok (.new index, 3)) (kk : ∀ (q : Nat) (S1 : PS) (H1 : Heap), S1 = nO S q 10 → q ∉ pL S → PW D cy B S1 H1 → va_S (Aw B) H0 H1 locs → W p l e R s m args below meth c H1 locs (cells + 1) (slots + 3) Q (F0 m (pc + 3) ls (.ref q :: rest))) : W p l e R s m args below meth c H locs cells slots Q (F0 m pc ls rest) := by
  obtain ⟨hx, hb, hts, hown, hK, hEn⟩ := C
  refine va_new (fs := [.null, .null, .null]) hx hb hts hin tyX10 tyX10_ok hown (hts _ h1) (hts _ h2) (hts _ h3) hK hW.1 hW.2 hS (fun q h => Nat.le_trans hB h) (ci := 11) rfl (fun j hj => by rcases (show j = 0 ∨ j = 1 ∨ j = 2 by omega) with rfl | rfl | rfl <;> rfl) hcells hslots hdg (fun q H1 hP1 hD1 hS1 => ?_)
  obtain ⟨hW1, hq⟩ := pw_push (S2 := nO S q 10) hP1 hD1 rfl (pF_up nO_off (by rw [pAt_10 (S := nO S q 10) nO_is.2]; simp [nO_fI, nO_fJ, nO_fR, va_rf]))
  exact kk q _ H1 rfl hq hW1 hS1
theorem n_11 (C : Cx p s m args c cc Ts own D cy B s0) (hin : ∀ w ∈ wsX110, w ∈ Ts) (hW : PW D cy B S H) (hS : va_S (Aw B) H0 H locs) (hB : B ≤ H0.size) {index : Nat} (h1 : Cond.classLink own index RX11 ∈ Ts) (h2 : Cond.instantiable RX11 34 ∈ Ts) (h3 : Cond.initialized RX11 ∈ Ts) (hcells : cells + 1 ≤ R.cells) (hslots : slots + 34 ≤ R.slots) (hdg : decode cc pc = .ok (.new index, 3)) (kk : ∀ (q : Nat) (S1 : PS) (H1 : Heap), S1 = nO S q 11 → q ∉ pL S → PW D cy B S1 H1 → va_S (Aw B) H0 H1 locs → W p l e R s m args below meth c H1 locs (cells + 1) (slots + 34) Q (F0 m (pc + 3) ls (.ref q :: rest))) : W p l e R s m args below meth c H locs cells slots Q (F0 m pc ls rest) := by
  obtain ⟨hx, hb, hts, hown, hK, hEn⟩ := C
  refine va_new (fs := [.int 0, .null, .null, .null, .null, .null, .null, .int 0, .null, .null, .null, .int 0, .null, .null, .null, .null, .null, .null, .null, .null, .null, .null, .null, .null, .null, .null, .null, .null, .null, .null, .null, .int 0, .null, .null]) hx hb hts hin tyX11 tyX11_ok hown (hts _ h1) (hts _ h2) (hts _ h3) hK hW.1 hW.2 hS (fun q h => Nat.le_trans hB h) (ci := 12) rfl (fun j hj => by rcases (show j = 0 ∨ j = 1 ∨ j = 2 ∨ j = 3 ∨ j = 4 ∨ j = 5 ∨ j = 6 ∨ j = 7 ∨ j = 8 ∨ j = 9 ∨ j = 10 ∨ j = 11 ∨ j = 12 ∨ j = 13 ∨ j = 14 ∨ j = 15 ∨ j = 16 ∨ j = 17 ∨ j = 18 ∨ j = 19 ∨ j = 20 ∨ j = 21 ∨ j = 22 ∨ j = 23 ∨ j = 24 ∨ j = 25 ∨ j = 26 ∨ j = 27 ∨ j = 28 ∨ j = 29 ∨ j = 30 ∨ j = 31 ∨ j = 32 ∨ j = 33 by omega) with rfl | rfl | rfl | rfl | rfl | rfl | rfl | rfl | rfl | rfl | rfl | rfl | rfl | rfl | rfl | rfl | rfl | rfl | rfl | rfl | rfl | rfl | rfl | rfl | rfl | rfl | rfl | rfl | rfl | rfl | rfl | rfl | rfl | rfl <;> rfl) hcells hslots hdg (fun q H1 hP1 hD1 hS1 => ?_)
  obtain ⟨hW1, hq⟩ := pw_push (S2 := nO S q 11) hP1 hD1 rfl (pF_up nO_off (by rw [pAt_11 (S := nO S q 11) nO_is.2]; simp [nO_fI, nO_fJ, nO_fR, va_rf]))
  exact kk q _ H1 rfl hq hW1 hS1
theorem n_12 (C : Cx p s m args c cc Ts own D cy B s0) (hin : ∀ w ∈ wsJx4a65c0, w ∈ Ts) (hW : PW D cy B S H) (hS : va_S (Aw B) H0 H locs) (hB : B ≤ H0.size) {index : Nat} (h1 : Cond.classLink own index RJx4a65c ∈ Ts) (h2 : Cond.instantiable RJx4a65c 3 ∈ Ts) (h3 : Cond.initialized RJx4a65c ∈ Ts) (hcells : cells + 1 ≤ R.cells) (hslots : slots + 3 ≤ R.slots) (hdg : decode cc pc = .ok (.new index, 3)) (kk : ∀ (q : Nat) (S1 : PS) (H1 : Heap), S1 = nO S q 12 → q ∉ pL S → PW D cy B S1 H1 → va_S (Aw B) H0 H1 locs → W p l e R s m args below meth c H1 locs (cells + 1) (slots + 3) Q (F0 m (pc + 3) ls (.ref q :: rest))) : W p l e R s m args below meth c H locs cells slots Q (F0 m pc ls rest) := by
  obtain ⟨hx, hb, hts, hown, hK, hEn⟩ := C
  refine va_new (fs := [.int 0, .null, .int 0]) hx hb hts hin tyJx4a65c tyJx4a65c_ok hown (hts _ h1) (hts _ h2) (hts _ h3) hK hW.1 hW.2 hS (fun q h => Nat.le_trans hB h) (ci := 0) rfl (fun j hj => by rcases (show j = 0 ∨ j = 1 ∨ j = 2 by omega) with rfl | rfl | rfl <;> rfl) hcells hslots hdg (fun q H1 hP1 hD1 hS1 => ?_)
  obtain ⟨hW1, hq⟩ := pw_push (S2 := nO S q 12) hP1 hD1 rfl (pF_up nO_off (by rw [pAt_12 (S := nO S q 12) nO_is.2]; simp [nO_fI, nO_fJ, nO_fR, va_rf]))
  exact kk q _ H1 rfl hq hW1 hS1
theorem n_13 (C : Cx p s m args c cc Ts own D cy B s0) (hW : PW D cy B S H) (hS : va_S (Aw B) H0 H locs) (hB : B ≤ H0.size) {N : Nat} {i : Int32} (h1 : Cond.arrayClass .int ∈ Ts) (hi : i = nI N) (hN : N ≤ 10000) (hcells : cells + 1 ≤ R.cells) (hslots : slots + N ≤ R.slots) (hdg : decode cc pc = .ok (.newarray .int, 2)) (kk : ∀ (q : Nat) (S1 : PS) (H1 : Heap), S1 = nA S q 13 N → q ∉ pL S → PW D cy B S1 H1 → va_S (Aw B) H0 H1 locs → W p l e R s m args below meth c H1 locs (cells + 1) (slots + N) Q (F0 m (pc + 2) ls (.ref q :: rest))) : W p l e R s m args below meth c H locs cells slots Q (F0 m pc ls (.int i :: rest)) := by
  obtain ⟨hx, hb, hts, hown, hK, hEn⟩ := C
  subst hi
  refine va_newa (atype := .int) (ty := .int) (a0 := (N, .inl (fun _ => 0))) hx hb (hts _ h1) rfl hK hW.1 hW.2 hS (fun q h => Nat.le_trans hB h) (fun cA => rfl) (nI_pos (by omega)) (nI_clamp (by omega)) (by show N * _ ≤ _; simp [componentBytes]; omega) hcells hslots hdg (fun q cA H1 hK1 hP1 hD1 hS1 => ?_)
  have e : cA = cy 0 := Option.some.inj (((hK1.2 9 (cA, .int) rfl).2).symm.trans ((hK.2 0 (cy 0, .int) rfl).2))
  subst e
  obtain ⟨hW1, hq⟩ := pw_push (S2 := nA S q 13 N) hP1 hD1 rfl (pF_up nA_off (by rw [pAt_13 (S := nA S q 13 N) nA_is.2]; simp [nA_aN, nA_aI, nA_aJ, nA_aQ]))
  exact kk q _ H1 rfl hq hW1 hS1
theorem n_14 (C : Cx p s m args c cc Ts own D cy B s0) (hW : PW D cy B S H) (hS : va_S (Aw B) H0 H locs) (hB : B ≤ H0.size) {N : Nat} {i : Int32} (h1 : Cond.arrayClass .long ∈ Ts) (hi : i = nI N) (hN : N ≤ 10000) (hcells : cells + 1 ≤ R.cells) (hslots : slots + N ≤ R.slots) (hdg : decode cc pc = .ok (.newarray .long, 2)) (kk : ∀ (q : Nat) (S1 : PS) (H1 : Heap), S1 = nA S q 14 N → q ∉ pL S → PW D cy B S1 H1 → va_S (Aw B) H0 H1 locs → W p l e R s m args below meth c H1 locs (cells + 1) (slots + N) Q (F0 m (pc + 2) ls (.ref q :: rest))) : W p l e R s m args below meth c H locs cells slots Q (F0 m pc ls (.int i :: rest)) := by
  obtain ⟨hx, hb, hts, hown, hK, hEn⟩ := C
  subst hi
  refine va_newa (atype := .long) (ty := .long) (a0 := (N, .inr (.inl (fun _ => 0)))) hx hb (hts _ h1) rfl hK hW.1 hW.2 hS (fun q h => Nat.le_trans hB h) (fun cA => rfl) (nI_pos (by omega)) (nI_clamp (by omega)) (by show N * _ ≤ _; simp [componentBytes]; omega) hcells hslots hdg (fun q cA H1 hK1 hP1 hD1 hS1 => ?_)
  have e : cA = cy 1 := Option.some.inj (((hK1.2 9 (cA, .long) rfl).2).symm.trans ((hK.2 1 (cy 1, .long) rfl).2))
  subst e
  obtain ⟨hW1, hq⟩ := pw_push (S2 := nA S q 14 N) hP1 hD1 rfl (pF_up nA_off (by rw [pAt_14 (S := nA S q 14 N) nA_is.2]; simp [nA_aN, nA_aI, nA_aJ, nA_aQ]))
  exact kk q _ H1 rfl hq hW1 hS1
theorem n_15 (C : Cx p s m args c cc Ts own D cy B s0) (hW : PW D cy B S H) (hS : va_S (Aw B) H0 H locs) (hB : B ≤ H0.size) {N : Nat} {i : Int32} (h1 : Cond.arrayClass .boolean ∈ Ts) (hi : i = nI N) (hN : N ≤ 10000) (hcells : cells + 1 ≤ R.cells) (hslots : slots + N ≤ R.slots) (hdg : decode cc pc = .ok (.newarray .boolean, 2)) (kk : ∀ (q : Nat) (S1 : PS) (H1 : Heap), S1 = nA S q 15 N → q ∉ pL S → PW D cy B S1 H1 → va_S (Aw B) H0 H1 locs → W p l e R s m args below meth c H1 locs (cells + 1) (slots + N) Q (F0 m (pc + 2) ls (.ref q :: rest))) : W p l e R s m args below meth c H locs cells slots Q (F0 m pc ls (.int i :: rest)) := by
  obtain ⟨hx, hb, hts, hown, hK, hEn⟩ := C
  subst hi
  refine va_newa (atype := .boolean) (ty := .boolean) (a0 := (N, .inl (fun _ => 0))) hx hb (hts _ h1) rfl hK hW.1 hW.2 hS (fun q h => Nat.le_trans hB h) (fun cA => rfl) (nI_pos (by omega)) (nI_clamp (by omega)) (by show N * _ ≤ _; simp [componentBytes]; omega) hcells hslots hdg (fun q cA H1 hK1 hP1 hD1 hS1 => ?_)
  have e : cA = cy 2 := Option.some.inj (((hK1.2 9 (cA, .boolean) rfl).2).symm.trans ((hK.2 2 (cy 2, .boolean) rfl).2))
  subst e
  obtain ⟨hW1, hq⟩ := pw_push (S2 := nA S q 15 N) hP1 hD1 rfl (pF_up nA_off (by rw [pAt_15 (S := nA S q 15 N) nA_is.2]; simp [nA_aN, nA_aI, nA_aJ, nA_aQ]))
  exact kk q _ H1 rfl hq hW1 hS1
theorem n_16 (C : Cx p s m args c cc Ts own D cy B s0) (hW : PW D cy B S H) (hS : va_S (Aw B) H0 H locs) (hB : B ≤ H0.size) {N index : Nat} {i : Int32} (h1 : Cond.classLink own index "LeaseGates$Account" ∈ Ts) (h2 : va_AO "LeaseGates$Account" s) (hi : i = nI N) (hN : N ≤ 100000) (hcells : cells + 1 ≤ R.cells) (hslots : slots + N ≤ R.slots) (hdg : decode cc pc = .ok (.anewarray index, 3)) (kk : ∀ (q : Nat) (S1 : PS) (H1 : Heap), S1 = nA S q 16 N → q ∉ pL S → PW D cy B S1 H1 → va_S (Aw B) H0 H1 locs → W p l e R s m args below meth c H1 locs (cells + 1) (slots + N) Q (F0 m (pc + 3) ls (.ref q :: rest))) : W p l e R s m args below meth c H locs cells slots Q (F0 m pc ls (.int i :: rest)) := by
  obtain ⟨hx, hb, hts, hown, hK, hEn⟩ := C
  subst hi
  refine va_newq hx hb hown (hts _ h1) h2 hK hW.1 hW.2 hS (fun q h => Nat.le_trans hB h) (nI_pos (by omega)) (nI_clamp (by omega)) (by omega) hcells hslots hdg (fun q cA H1 hK1 hP1 hD1 hS1 => ?_)
  have e : cA = cy 3 := by
    obtain ⟨-, -, -, -, -, e1⟩ := (hK1.2 9 (cA, .object "LeaseGates$Account") rfl).2
    obtain ⟨-, -, -, -, -, e2⟩ := (hK.2 3 (cy 3, .object "LeaseGates$Account") rfl).2
    exact Option.some.inj (e1.symm.trans e2)
  subst e
  obtain ⟨hW1, hq⟩ := pw_push (S2 := nA S q 16 N) hP1 hD1 rfl (pF_up nA_off (by rw [pAt_16 (S := nA S q 16 N) nA_is.2]; simp [nA_aN, nA_aI, nA_aJ, nA_aQ]))
  exact kk q _ H1 rfl hq hW1 hS1
theorem n_17 (C : Cx p s m args c cc Ts own D cy B s0) (hW : PW D cy B S H) (hS : va_S (Aw B) H0 H locs) (hB : B ≤ H0.size) {N index : Nat} {i : Int32} (h1 : Cond.classLink own index "LeaseGates$Bucket" ∈ Ts) (h2 : va_AO "LeaseGates$Bucket" s) (hi : i = nI N) (hN : N ≤ 100000) (hcells : cells + 1 ≤ R.cells) (hslots : slots + N ≤ R.slots) (hdg : decode cc pc = .ok (.anewarray index, 3)) (kk : ∀ (q : Nat) (S1 : PS) (H1 : Heap), S1 = nA S q 17 N → q ∉ pL S → PW D cy B S1 H1 → va_S (Aw B) H0 H1 locs → W p l e R s m args below meth c H1 locs (cells + 1) (slots + N) Q (F0 m (pc + 3) ls (.ref q :: rest))) : W p l e R s m args below meth c H locs cells slots Q (F0 m pc ls (.int i :: rest)) := by
  obtain ⟨hx, hb, hts, hown, hK, hEn⟩ := C
  subst hi
  refine va_newq hx hb hown (hts _ h1) h2 hK hW.1 hW.2 hS (fun q h => Nat.le_trans hB h) (nI_pos (by omega)) (nI_clamp (by omega)) (by omega) hcells hslots hdg (fun q cA H1 hK1 hP1 hD1 hS1 => ?_)
  have e : cA = cy 4 := by
    obtain ⟨-, -, -, -, -, e1⟩ := (hK1.2 9 (cA, .object "LeaseGates$Bucket") rfl).2
    obtain ⟨-, -, -, -, -, e2⟩ := (hK.2 4 (cy 4, .object "LeaseGates$Bucket") rfl).2
    exact Option.some.inj (e1.symm.trans e2)
  subst e
  obtain ⟨hW1, hq⟩ := pw_push (S2 := nA S q 17 N) hP1 hD1 rfl (pF_up nA_off (by rw [pAt_17 (S := nA S q 17 N) nA_is.2]; simp [nA_aN, nA_aI, nA_aJ, nA_aQ]))
  exact kk q _ H1 rfl hq hW1 hS1
theorem n_18 (C : Cx p s m args c cc Ts own D cy B s0) (hW : PW D cy B S H) (hS : va_S (Aw B) H0 H locs) (hB : B ≤ H0.size) {N index : Nat} {i : Int32} (h1 : Cond.classLink own index "LeaseGates$Desk" ∈ Ts) (h2 : va_AO "LeaseGates$Desk" s) (hi : i = nI N) (hN : N ≤ 100000) (hcells : cells + 1 ≤ R.cells) (hslots : slots + N ≤ R.slots) (hdg : decode cc pc = .ok (.anewarray index, 3)) (kk : ∀ (q : Nat) (S1 : PS) (H1 : Heap), S1 = nA S q 18 N → q ∉ pL S → PW D cy B S1 H1 → va_S (Aw B) H0 H1 locs → W p l e R s m args below meth c H1 locs (cells + 1) (slots + N) Q (F0 m (pc + 3) ls (.ref q :: rest))) : W p l e R s m args below meth c H locs cells slots Q (F0 m pc ls (.int i :: rest)) := by
  obtain ⟨hx, hb, hts, hown, hK, hEn⟩ := C
  subst hi
  refine va_newq hx hb hown (hts _ h1) h2 hK hW.1 hW.2 hS (fun q h => Nat.le_trans hB h) (nI_pos (by omega)) (nI_clamp (by omega)) (by omega) hcells hslots hdg (fun q cA H1 hK1 hP1 hD1 hS1 => ?_)
  have e : cA = cy 5 := by
    obtain ⟨-, -, -, -, -, e1⟩ := (hK1.2 9 (cA, .object "LeaseGates$Desk") rfl).2
    obtain ⟨-, -, -, -, -, e2⟩ := (hK.2 5 (cy 5, .object "LeaseGates$Desk") rfl).2
    exact Option.some.inj (e1.symm.trans e2)
  subst e
  obtain ⟨hW1, hq⟩ := pw_push (S2 := nA S q 18 N) hP1 hD1 rfl (pF_up nA_off (by rw [pAt_18 (S := nA S q 18 N) nA_is.2]; simp [nA_aN, nA_aI, nA_aJ, nA_aQ]))
  exact kk q _ H1 rfl hq hW1 hS1
theorem n_19 (C : Cx p s m args c cc Ts own D cy B s0) (hW : PW D cy B S H) (hS : va_S (Aw B) H0 H locs) (hB : B ≤ H0.size) {N index : Nat} {i : Int32} (h1 : Cond.classLink own index "LeaseGates$Gate" ∈ Ts) (h2 : va_AO "LeaseGates$Gate" s) (hi : i = nI N) (hN : N ≤ 100000) (hcells : cells + 1 ≤ R.cells) (hslots : slots + N ≤ R.slots) (hdg : decode cc pc = .ok (.anewarray index, 3)) (kk : ∀ (q : Nat) (S1 : PS) (H1 : Heap), S1 = nA S q 19 N → q ∉ pL S → PW D cy B S1 H1 → va_S (Aw B) H0 H1 locs → W p l e R s m args below meth c H1 locs (cells + 1) (slots + N) Q (F0 m (pc + 3) ls (.ref q :: rest))) : W p l e R s m args below meth c H locs cells slots Q (F0 m pc ls (.int i :: rest)) := by
  obtain ⟨hx, hb, hts, hown, hK, hEn⟩ := C
  subst hi
  refine va_newq hx hb hown (hts _ h1) h2 hK hW.1 hW.2 hS (fun q h => Nat.le_trans hB h) (nI_pos (by omega)) (nI_clamp (by omega)) (by omega) hcells hslots hdg (fun q cA H1 hK1 hP1 hD1 hS1 => ?_)
  have e : cA = cy 6 := by
    obtain ⟨-, -, -, -, -, e1⟩ := (hK1.2 9 (cA, .object "LeaseGates$Gate") rfl).2
    obtain ⟨-, -, -, -, -, e2⟩ := (hK.2 6 (cy 6, .object "LeaseGates$Gate") rfl).2
    exact Option.some.inj (e1.symm.trans e2)
  subst e
  obtain ⟨hW1, hq⟩ := pw_push (S2 := nA S q 19 N) hP1 hD1 rfl (pF_up nA_off (by rw [pAt_19 (S := nA S q 19 N) nA_is.2]; simp [nA_aN, nA_aI, nA_aJ, nA_aQ]))
  exact kk q _ H1 rfl hq hW1 hS1
theorem n_20 (C : Cx p s m args c cc Ts own D cy B s0) (hW : PW D cy B S H) (hS : va_S (Aw B) H0 H locs) (hB : B ≤ H0.size) {N index : Nat} {i : Int32} (h1 : Cond.classLink own index "LeaseGates$Message" ∈ Ts) (h2 : va_AO "LeaseGates$Message" s) (hi : i = nI N) (hN : N ≤ 100000) (hcells : cells + 1 ≤ R.cells) (hslots : slots + N ≤ R.slots) (hdg : decode cc pc = .ok (.anewarray index, 3)) (kk : ∀ (q : Nat) (S1 : PS) (H1 : Heap), S1 = nA S q 20 N → q ∉ pL S → PW D cy B S1 H1 → va_S (Aw B) H0 H1 locs → W p l e R s m args below meth c H1 locs (cells + 1) (slots + N) Q (F0 m (pc + 3) ls (.ref q :: rest))) : W p l e R s m args below meth c H locs cells slots Q (F0 m pc ls (.int i :: rest)) := by
  obtain ⟨hx, hb, hts, hown, hK, hEn⟩ := C
  subst hi
  refine va_newq hx hb hown (hts _ h1) h2 hK hW.1 hW.2 hS (fun q h => Nat.le_trans hB h) (nI_pos (by omega)) (nI_clamp (by omega)) (by omega) hcells hslots hdg (fun q cA H1 hK1 hP1 hD1 hS1 => ?_)
  have e : cA = cy 7 := by
    obtain ⟨-, -, -, -, -, e1⟩ := (hK1.2 9 (cA, .object "LeaseGates$Message") rfl).2
    obtain ⟨-, -, -, -, -, e2⟩ := (hK.2 7 (cy 7, .object "LeaseGates$Message") rfl).2
    exact Option.some.inj (e1.symm.trans e2)
  subst e
  obtain ⟨hW1, hq⟩ := pw_push (S2 := nA S q 20 N) hP1 hD1 rfl (pF_up nA_off (by rw [pAt_20 (S := nA S q 20 N) nA_is.2]; simp [nA_aN, nA_aI, nA_aJ, nA_aQ]))
  exact kk q _ H1 rfl hq hW1 hS1
theorem n_21 (C : Cx p s m args c cc Ts own D cy B s0) (hW : PW D cy B S H) (hS : va_S (Aw B) H0 H locs) (hB : B ≤ H0.size) {N index : Nat} {i : Int32} (h1 : Cond.classLink own index "java/lang/Object" ∈ Ts) (h2 : va_AO "java/lang/Object" s) (hi : i = nI N) (hN : N ≤ 100000) (hcells : cells + 1 ≤ R.cells) (hslots : slots + N ≤ R.slots) (hdg : decode cc pc = .ok (.anewarray index, 3)) (kk : ∀ (q : Nat) (S1 : PS) (H1 : Heap), S1 = nA S q 21 N → q ∉ pL S → PW D cy B S1 H1 → va_S (Aw B) H0 H1 locs → W p l e R s m args below meth c H1 locs (cells + 1) (slots + N) Q (F0 m (pc + 3) ls (.ref q :: rest))) : W p l e R s m args below meth c H locs cells slots Q (F0 m pc ls (.int i :: rest)) := by
  obtain ⟨hx, hb, hts, hown, hK, hEn⟩ := C
  subst hi
  refine va_newq hx hb hown (hts _ h1) h2 hK hW.1 hW.2 hS (fun q h => Nat.le_trans hB h) (nI_pos (by omega)) (nI_clamp (by omega)) (by omega) hcells hslots hdg (fun q cA H1 hK1 hP1 hD1 hS1 => ?_)
  have e : cA = cy 8 := by
    obtain ⟨-, -, -, -, -, e1⟩ := (hK1.2 9 (cA, .object "java/lang/Object") rfl).2
    obtain ⟨-, -, -, -, -, e2⟩ := (hK.2 8 (cy 8, .object "java/lang/Object") rfl).2
    exact Option.some.inj (e1.symm.trans e2)
  subst e
  obtain ⟨hW1, hq⟩ := pw_push (S2 := nA S q 21 N) hP1 hD1 rfl (pF_up nA_off (by rw [pAt_21 (S := nA S q 21 N) nA_is.2]; simp [nA_aN, nA_aI, nA_aJ, nA_aQ]))
  exact kk q _ H1 rfl hq hW1 hS1
end ROWS
/-- the start of a method over the pool -/
def PreW (D : va_G) (cy : Nat → ClassId) (B : Nat) (s0 : State) (S : PS) (U : State) : Prop := B ≤ U.heap.size ∧ PW D cy B S U.heap ∧ va_K D vwCl (tyW cy) U ∧ EnvW s0 B U U.heap
theorem PreW.blind {D : va_G} {cy : Nat → ClassId} {B : Nat} {s0 : State} {S : PS} {av : List Value} : FrameBlind (va_Pc av (PreW D cy B s0 S)) := fun a U g mk q => ⟨q.1, q.2.1, q.2.2.1, va_K.moved (u := U) (U := U.calling g mk a) (Vm.Alike.refl U.vm) q.2.2.2.1, q.2.2.2.2⟩
abbrev KI (l : Launch) (y : MethodName) (ws : List Cond) (rm : Room) (D : va_G) (cy : Nat → ClassId) (B : Nat) (s0 : State) (av : List Value) (S : PS) (post : Int32 → PS → Prop) (mc ms : Nat) : Prop := Met l y ws rm (va_Pc av (PreW D cy B s0 S)) (va_Qi post (PreW D cy B s0) (Aw B)) mc ms (Aw B)
abbrev KL (l : Launch) (y : MethodName) (ws : List Cond) (rm : Room) (D : va_G) (cy : Nat → ClassId) (B : Nat) (s0 : State) (av : List Value) (S : PS) (post : Int64 → PS → Prop) (mc ms : Nat) : Prop := Met l y ws rm (va_Pc av (PreW D cy B s0 S)) (va_Ql post (PreW D cy B s0) (Aw B)) mc ms (Aw B)
abbrev KV (l : Launch) (y : MethodName) (ws : List Cond) (rm : Room) (D : va_G) (cy : Nat → ClassId) (B : Nat) (s0 : State) (av : List Value) (S : PS) (post : PS → Prop) (mc ms : Nat) : Prop := Met l y ws rm (va_Pc av (PreW D cy B s0 S)) (va_Qv post (PreW D cy B s0) (Aw B)) mc ms (Aw B)
abbrev KQ (l : Launch) (y : MethodName) (ws : List Cond) (rm : Room) (D : va_G) (cy : Nat → ClassId) (B : Nat) (s0 : State) (av : List Value) (S : PS) (post : Option Nat → PS → Prop) (mc ms : Nat) : Prop := Met l y ws rm (va_Pc av (PreW D cy B s0 S)) (va_Qq post (PreW D cy B s0) (Aw B)) mc ms (Aw B)
section CALLS
variable {p : Program} {l : Launch} {e : Env} {R : Room} {s : State} {m : MethodId} {args : Array Value} {below : List Frame} {meth : Method} {c : Code} {H : Heap} {locs : List Loc} {cells slots : Nat} {Q : State → Prop} {cc : ByteArray} {pc : Nat} {ls : Array Slot} {rest : List Value} {D : va_G} {cy : Nat → ClassId} {B : Nat} {S : PS} {Ts : List Cond} {own : String} {H0 : Heap} {s0 : State}
variable {y : MethodName} {bytes : ByteArray} {maxL nL mc ms n index b : Nat} {ret : Option FieldType} {ws ws2 : List Cond} {rm : Room} {Cn : String} {As st0 : List Value}
theorem top_i {x y : Int32} (h : x = y) (k : W p l e R s m args below meth c H locs cells slots Q (F0 m pc ls (.int y :: rest))) : W p l e R s m args below meth c H locs cells slots Q (F0 m pc ls (.int x :: rest)) := by rw [h]; exact k
theorem top_l {x y : Int64} (h : x = y) (k : W p l e R s m args below meth c H locs cells slots Q (F0 m pc ls (.long y :: rest))) : W p l e R s m args below meth c H locs cells slots Q (F0 m pc ls (.long x :: rest)) := by rw [h]; exact k
theorem lcz (x y : Int64) : (lg_cmp x y = 1 ∧ y < x) ∨ (lg_cmp x y = 0 ∧ x = y) ∨ (lg_cmp x y = -1 ∧ x < y) := by
  by_cases h1 : y < x
  · exact Or.inl ⟨by simp [lg_cmp, h1], h1⟩
  · by_cases h2 : x = y
    · exact Or.inr (Or.inl ⟨by simp [lg_cmp, h2], h2⟩)
    · refine Or.inr (Or.inr ⟨by simp [lg_cmp, h1, h2], ?_⟩)
      rw [Int64.lt_iff_toInt_lt] at *
      have h3 : x.toInt ≠ y.toInt := fun e => h2 (Int64.toInt_inj.mp e)
      omega
theorem lcz_ge (x y : Int64) : (0 ≤ lg_cmp x y) ↔ y ≤ x := by
  rcases lcz x y with ⟨a, b⟩ | ⟨a, b⟩ | ⟨a, b⟩
  all_goals rw [a]
  all_goals (try subst b)
  all_goals (try rw [Int64.lt_iff_toInt_lt] at b)
  all_goals (try simp only [Int64.le_iff_toInt_le, Int64.lt_iff_toInt_lt, ← Int64.toInt_inj])
  all_goals first | (constructor <;> intro h <;> first | omega | (exact absurd h (by decide)) | decide | (intro h2; omega)) | decide | simp
theorem lc_ge (hexec : p.tables.exec = Jvm.exec) (hb : c.code = cc) {x y : Int64} {off : Int} {tgt : Nat} (h1 : decode cc pc = .ok (.lcmp, 1)) (h2 : decode cc (pc + 1) = .ok (.ifCond .ge off, 3)) (ht : ((pc + 1 : Nat) : Int) + off = (tgt : Int)) (kt : y ≤ x → W p l e R s m args below meth c H locs cells slots Q (F0 m tgt ls rest)) (kf : ¬ y ≤ x → W p l e R s m args below meth c H locs cells slots Q (F0 m (pc + 1 + 3) ls rest)) : W p l e R s m args below meth c H locs cells slots Q (F0 m pc ls (.long y :: .long x :: rest)) :=
  W.lcmp hexec hb h1 (lv_if_ge (tgt := tgt) hexec hb h2 ht (fun z => kt ((lcz_ge x y).mp z)) (fun z => kf (fun q => z ((lcz_ge x y).mpr q))))
theorem lcz_lt (x y : Int64) : (lg_cmp x y < 0) ↔ x < y := by
  rcases lcz x y with ⟨a, b⟩ | ⟨a, b⟩ | ⟨a, b⟩
  all_goals rw [a]
  all_goals (try subst b)
  all_goals (try rw [Int64.lt_iff_toInt_lt] at b)
  all_goals (try simp only [Int64.le_iff_toInt_le, Int64.lt_iff_toInt_lt, ← Int64.toInt_inj])
  all_goals first | (constructor <;> intro h <;> first | omega | (exact absurd h (by decide)) | decide | (intro h2; omega)) | decide | simp
theorem lc_lt (hexec : p.tables.exec = Jvm.exec) (hb : c.code = cc) {x y : Int64} {off : Int} {tgt : Nat} (h1 : decode cc pc = .ok (.lcmp, 1)) (h2 : decode cc (pc + 1) = .ok (.ifCond .lt off, 3)) (ht : ((pc + 1 : Nat) : Int) + off = (tgt : Int)) (kt : x < y → W p l e R s m args below meth c H locs cells slots Q (F0 m tgt ls rest)) (kf : ¬ x < y → W p l e R s m args below meth c H locs cells slots Q (F0 m (pc + 1 + 3) ls rest)) : W p l e R s m args below meth c H locs cells slots Q (F0 m pc ls (.long y :: .long x :: rest)) :=
  W.lcmp hexec hb h1 (lv_if_lt (tgt := tgt) hexec hb h2 ht (fun z => kt ((lcz_lt x y).mp z)) (fun z => kf (fun q => z ((lcz_lt x y).mpr q))))
theorem lcz_le (x y : Int64) : (lg_cmp x y ≤ 0) ↔ x ≤ y := by
  rcases lcz x y with ⟨a, b⟩ | ⟨a, b⟩ | ⟨a, b⟩
  all_goals rw [a]
  all_goals (try subst b)
  all_goals (try rw [Int64.lt_iff_toInt_lt] at b)
  all_goals (try simp only [Int64.le_iff_toInt_le, Int64.lt_iff_toInt_lt, ← Int64.toInt_inj])
  all_goals first | (constructor <;> intro h <;> first | omega | (exact absurd h (by decide)) | decide | (intro h2; omega)) | decide | simp
theorem lc_le (hexec : p.tables.exec = Jvm.exec) (hb : c.code = cc) {x y : Int64} {off : Int} {tgt : Nat} (h1 : decode cc pc = .ok (.lcmp, 1)) (h2 : decode cc (pc + 1) = .ok (.ifCond .le off, 3)) (ht : ((pc + 1 : Nat) : Int) + off = (tgt : Int)) (kt : x ≤ y → W p l e R s m args below meth c H locs cells slots Q (F0 m tgt ls rest)) (kf : ¬ x ≤ y → W p l e R s m args below meth c H locs cells slots Q (F0 m (pc + 1 + 3) ls rest)) : W p l e R s m args below meth c H locs cells slots Q (F0 m pc ls (.long y :: .long x :: rest)) :=
  W.lcmp hexec hb h1 (lv_if_le (tgt := tgt) hexec hb h2 ht (fun z => kt ((lcz_le x y).mp z)) (fun z => kf (fun q => z ((lcz_le x y).mpr q))))
theorem lcz_gt (x y : Int64) : (0 < lg_cmp x y) ↔ y < x := by
  rcases lcz x y with ⟨a, b⟩ | ⟨a, b⟩ | ⟨a, b⟩
  all_goals rw [a]
  all_goals (try subst b)
  all_goals (try rw [Int64.lt_iff_toInt_lt] at b)
  all_goals (try simp only [Int64.le_iff_toInt_le, Int64.lt_iff_toInt_lt, ← Int64.toInt_inj])
  all_goals first | (constructor <;> intro h <;> first | omega | (exact absurd h (by decide)) | decide | (intro h2; omega)) | decide | simp
theorem lc_gt (hexec : p.tables.exec = Jvm.exec) (hb : c.code = cc) {x y : Int64} {off : Int} {tgt : Nat} (h1 : decode cc pc = .ok (.lcmp, 1)) (h2 : decode cc (pc + 1) = .ok (.ifCond .gt off, 3)) (ht : ((pc + 1 : Nat) : Int) + off = (tgt : Int)) (kt : y < x → W p l e R s m args below meth c H locs cells slots Q (F0 m tgt ls rest)) (kf : ¬ y < x → W p l e R s m args below meth c H locs cells slots Q (F0 m (pc + 1 + 3) ls rest)) : W p l e R s m args below meth c H locs cells slots Q (F0 m pc ls (.long y :: .long x :: rest)) :=
  W.lcmp hexec hb h1 (lv_if_gt (tgt := tgt) hexec hb h2 ht (fun z => kt ((lcz_gt x y).mp z)) (fun z => kf (fun q => z ((lcz_gt x y).mpr q))))
theorem lcz_eq (x y : Int64) : (lg_cmp x y = 0) ↔ x = y := by
  rcases lcz x y with ⟨a, b⟩ | ⟨a, b⟩ | ⟨a, b⟩
  all_goals rw [a]
  all_goals (try subst b)
  all_goals (try rw [Int64.lt_iff_toInt_lt] at b)
  all_goals (try simp only [Int64.le_iff_toInt_le, Int64.lt_iff_toInt_lt, ← Int64.toInt_inj])
  all_goals first | (constructor <;> intro h <;> first | omega | (exact absurd h (by decide)) | decide | (intro h2; omega)) | decide | simp
theorem lc_eq (hexec : p.tables.exec = Jvm.exec) (hb : c.code = cc) {x y : Int64} {off : Int} {tgt : Nat} (h1 : decode cc pc = .ok (.lcmp, 1)) (h2 : decode cc (pc + 1) = .ok (.ifCond .eq off, 3)) (ht : ((pc + 1 : Nat) : Int) + off = (tgt : Int)) (kt : x = y → W p l e R s m args below meth c H locs cells slots Q (F0 m tgt ls rest)) (kf : ¬ x = y → W p l e R s m args below meth c H locs cells slots Q (F0 m (pc + 1 + 3) ls rest)) : W p l e R s m args below meth c H locs cells slots Q (F0 m pc ls (.long y :: .long x :: rest)) :=
  W.lcmp hexec hb h1 (lv_if_eq (tgt := tgt) hexec hb h2 ht (fun z => kt ((lcz_eq x y).mp z)) (fun z => kf (fun q => z ((lcz_eq x y).mpr q))))
theorem lcz_ne (x y : Int64) : (¬ lg_cmp x y = 0) ↔ ¬ x = y := by
  rcases lcz x y with ⟨a, b⟩ | ⟨a, b⟩ | ⟨a, b⟩
  all_goals rw [a]
  all_goals (try subst b)
  all_goals (try rw [Int64.lt_iff_toInt_lt] at b)
  all_goals (try simp only [Int64.le_iff_toInt_le, Int64.lt_iff_toInt_lt, ← Int64.toInt_inj])
  all_goals first | (constructor <;> intro h <;> first | omega | (exact absurd h (by decide)) | decide | (intro h2; omega)) | decide | simp
theorem lc_ne (hexec : p.tables.exec = Jvm.exec) (hb : c.code = cc) {x y : Int64} {off : Int} {tgt : Nat} (h1 : decode cc pc = .ok (.lcmp, 1)) (h2 : decode cc (pc + 1) = .ok (.ifCond .ne off, 3)) (ht : ((pc + 1 : Nat) : Int) + off = (tgt : Int)) (kt : ¬ x = y → W p l e R s m args below meth c H locs cells slots Q (F0 m tgt ls rest)) (kf : x = y → W p l e R s m args below meth c H locs cells slots Q (F0 m (pc + 1 + 3) ls rest)) : W p l e R s m args below meth c H locs cells slots Q (F0 m pc ls (.long y :: .long x :: rest)) :=
  W.lcmp hexec hb h1 (lv_if_ne (tgt := tgt) hexec hb h2 ht (fun z => kt ((lcz_ne x y).mp z)) (fun z => kf ((lcz_eq x y).mp z)))
theorem k_body {Qc : Array Value → State → Outcome → State → Prop} {av : List Value} {free : Addr → Prop} (ho : y.cls = own) (hy : plainName y.cls = true) (hw : ws = Cond.code y cc maxL ret :: ws2) (hav : (lg_sl av).length ≤ maxL)
    (body : ∀ (p : Program) (e : Env) (s : State) (m : MethodId) (below : List Frame) (meth : Method) (c : Code), Cx p s m av.toArray c cc ws own D cy B s0 → c.maxLocals = maxL → meth.sig.returnType = ret → meth.locks = false → meth.name = y.name → B ≤ s.heap.size → PW D cy B S s.heap → ∀ ls, lv_has ls maxL (lv_args 0 av) → W p l e rm s m av.toArray below meth c s.heap [] 0 0 (MQ below Qc av.toArray s mc ms free) (F0 m 0 ls [])) : Met l y ws rm (va_Pc av (PreW D cy B s0 S)) Qc mc ms free := by
  subst ho
  refine Met.ofW hy hw ?_
  intro p e s m args below meth c s₁ BB hml hv
  obtain ⟨rfl, hB, hW, hK, hEn⟩ := hv
  have hts := atoms_spec (ws := ws) BB.pre
  have hl := lv_entry av (n := maxL) hav
  rw [lg_entry_eq]
  exact body p e s m below meth c ⟨BB.exec, BB.bytes, hts, findClass_of_methodNamed BB.named, hK, hEn⟩ hml BB.returns BB.notSynchronized (name_of_methodNamed BB.named BB.method).1 hB hW _ hl
theorem k_iret {post : Int32 → PS → Prop} {v : Int32} (C : Cx p s m args c cc Ts own D cy B s0) (hr : meth.sig.returnType = some .int) (hlk : meth.locks = false) (hW : PW D cy B S H) (hS : va_S (Aw B) s.heap H locs) (hB : B ≤ s.heap.size) (hp : post v S) (hc : cells ≤ mc) (hs : slots ≤ ms) (hdg : decode cc pc = .ok (.ireturn, 1)) : W p l e R s m args below meth c H locs cells slots (MQ below (va_Qi post (PreW D cy B s0) (Aw B)) args s mc ms (Aw B)) (F0 m pc ls [.int v]) := by
  obtain ⟨hx, hb, hts, hown, hK, hEn⟩ := C
  exact W.widen hc hs (W.iret hx hb hr (fun t ht hWm => ⟨⟨v, S, rfl, hp, by rw [ht]; exact Nat.le_trans hB hS.1, by rw [ht]; exact hW, va_K.moved hWm.alike hK, by rw [ht]; exact hEn.go hB hS hWm⟩, hS.F ht⟩) hS.2.2 hdg hlk)
theorem k_lret {post : Int64 → PS → Prop} {v : Int64} (C : Cx p s m args c cc Ts own D cy B s0) (hr : meth.sig.returnType = some .long) (hlk : meth.locks = false) (hW : PW D cy B S H) (hS : va_S (Aw B) s.heap H locs) (hB : B ≤ s.heap.size) (hp : post v S) (hc : cells ≤ mc) (hs : slots ≤ ms) (hdg : decode cc pc = .ok (.lreturn, 1)) : W p l e R s m args below meth c H locs cells slots (MQ below (va_Ql post (PreW D cy B s0) (Aw B)) args s mc ms (Aw B)) (F0 m pc ls [.long v]) := by
  obtain ⟨hx, hb, hts, hown, hK, hEn⟩ := C
  exact W.widen hc hs (W.lret hx hb hr (fun t ht hWm => ⟨⟨v, S, rfl, hp, by rw [ht]; exact Nat.le_trans hB hS.1, by rw [ht]; exact hW, va_K.moved hWm.alike hK, by rw [ht]; exact hEn.go hB hS hWm⟩, hS.F ht⟩) hS.2.2 hdg hlk)
theorem k_vret {post : PS → Prop} (C : Cx p s m args c cc Ts own D cy B s0) (hr : meth.sig.returnType = none) (hlk : meth.locks = false) (hW : PW D cy B S H) (hS : va_S (Aw B) s.heap H locs) (hB : B ≤ s.heap.size) (hp : post S) (hc : cells ≤ mc) (hs : slots ≤ ms) (hdg : decode cc pc = .ok (.return_, 1)) : W p l e R s m args below meth c H locs cells slots (MQ below (va_Qv post (PreW D cy B s0) (Aw B)) args s mc ms (Aw B)) (F0 m pc ls []) := by
  obtain ⟨hx, hb, hts, hown, hK, hEn⟩ := C
  exact W.widen hc hs (W.vret hx hb hr (fun t ht hWm => ⟨⟨S, rfl, hp, by rw [ht]; exact Nat.le_trans hB hS.1, by rw [ht]; exact hW, va_K.moved hWm.alike hK, by rw [ht]; exact hEn.go hB hS hWm⟩, hS.F ht⟩) hS.2.2 hdg hlk)
theorem k_zret {post : Int32 → PS → Prop} {v : Int32} (C : Cx p s m args c cc Ts own D cy B s0) (hr : meth.sig.returnType = some .boolean) (hlk : meth.locks = false) (hW : PW D cy B S H) (hS : va_S (Aw B) s.heap H locs) (hB : B ≤ s.heap.size) (hp : post v S) (hz : v = 0 ∨ v = 1) (hc : cells ≤ mc) (hs : slots ≤ ms) (hdg : decode cc pc = .ok (.ireturn, 1)) : W p l e R s m args below meth c H locs cells slots (MQ below (va_Qi post (PreW D cy B s0) (Aw B)) args s mc ms (Aw B)) (F0 m pc ls [.int v]) := by
  obtain ⟨hx, hb, hts, hown, hK, hEn⟩ := C
  exact W.widen hc hs (W.zret hx hb hr (narz hz) (fun t ht hWm => ⟨⟨v, S, rfl, hp, by rw [ht]; exact Nat.le_trans hB hS.1, by rw [ht]; exact hW, va_K.moved hWm.alike hK, by rw [ht]; exact hEn.go hB hS hWm⟩, hS.F ht⟩) hS.2.2 hdg hlk)
theorem k_aret {post : Option Nat → PS → Prop} {v : Nat} {rt : FieldType} (C : Cx p s m args c cc Ts own D cy B s0) (hr : meth.sig.returnType = some rt) (hlk : meth.locks = false) (hW : PW D cy B S H) (hS : va_S (Aw B) s.heap H locs) (hB : B ≤ s.heap.size) (hp : post (some v) S) (hrt : (∃ n, rt = .object n) ∨ ∃ t, rt = .array t) (hc : cells ≤ mc) (hs : slots ≤ ms) (hdg : decode cc pc = .ok (.areturn, 1)) : W p l e R s m args below meth c H locs cells slots (MQ below (va_Qq post (PreW D cy B s0) (Aw B)) args s mc ms (Aw B)) (F0 m pc ls [.ref v]) := by
  obtain ⟨hx, hb, hts, hown, hK, hEn⟩ := C
  exact W.widen hc hs (W.aret hx hb hr hrt (Or.inr ⟨_, rfl⟩) (fun t ht hWm => ⟨⟨some v, S, rfl, hp, by rw [ht]; exact Nat.le_trans hB hS.1, by rw [ht]; exact hW, va_K.moved hWm.alike hK, by rw [ht]; exact hEn.go hB hS hWm⟩, hS.F ht⟩) hS.2.2 hdg hlk)
theorem k_aretN {post : Option Nat → PS → Prop} {rt : FieldType} (C : Cx p s m args c cc Ts own D cy B s0) (hr : meth.sig.returnType = some rt) (hlk : meth.locks = false) (hW : PW D cy B S H) (hS : va_S (Aw B) s.heap H locs) (hB : B ≤ s.heap.size) (hp : post none S) (hrt : (∃ n, rt = .object n) ∨ ∃ t, rt = .array t) (hc : cells ≤ mc) (hs : slots ≤ ms) (hdg : decode cc pc = .ok (.areturn, 1)) : W p l e R s m args below meth c H locs cells slots (MQ below (va_Qq post (PreW D cy B s0) (Aw B)) args s mc ms (Aw B)) (F0 m pc ls [.null]) := by
  obtain ⟨hx, hb, hts, hown, hK, hEn⟩ := C
  exact W.widen hc hs (W.aret hx hb hr hrt (Or.inl rfl) (fun t ht hWm => ⟨⟨none, S, rfl, hp, by rw [ht]; exact Nat.le_trans hB hS.1, by rw [ht]; exact hW, va_K.moved hWm.alike hK, by rw [ht]; exact hEn.go hB hS hWm⟩, hS.F ht⟩) hS.2.2 hdg hlk)
theorem k_callVi {post : Int32 → PS → Prop} {ci : Nat} {fs : List Value} {T : u_T} {N : Nat} (C : Cx p s m args c cc Ts own D cy B s0) (hml : c.maxLocals = nL) (hM : KI l y ws rm D cy B s0 (.ref b :: As) S post mc ms) (cw : CallW R s args own Cn index y bytes maxL ret ws rm mc ms n) (hW : PW D cy B S H) (hS : va_S (Aw B) s.heap H locs) (hB : B ≤ s.heap.size) (hL : b ∈ pL S) (hF : pF cy S b = .inr (ci, fs)) (hc : vwCl[ci]? = some (Cn, T, N)) (hn : As.length = n) (hsz : ls.size = nL) (hst : st0 = As.reverse ++ .ref b :: rest) (hrm : (rest.map fun v => v.category).sum ≤ 8) (hdg : decode cc pc = .ok (.invokevirtual index, 3)) (hf : cells + mc ≤ R.cells ∧ slots + ms ≤ R.slots) (kk : ∀ (r : Int32) (S1 : PS) (H1 : Heap) (locs1 : List Loc), post r S1 → PW D cy B S1 H1 → va_S (Aw B) s.heap H1 locs1 → W p l e R s m args below meth c H1 locs1 (cells + mc) (slots + ms) Q (F0 m (pc + 3) ls (.int r :: rest))) : W p l e R s m args below meth c H locs cells slots Q (F0 m pc ls st0) := by
  obtain ⟨hx, hb, hts, hown, hK, hEn⟩ := C
  obtain ⟨k0, hk0⟩ := va_pl_get (X := []) (f := pF cy S) hL
  rw [hF] at hk0
  exact va_calli (va_runV (As := As) (rest := rest) ⟨hx, hb, hml, hown, hts⟩ hM cw ⟨PreW.blind, va_recv hK hW.1 (ci := ci) (q0 := k0) hc hk0, fun U hU hWm => ⟨rfl, by rw [hU]; exact Nat.le_trans hB hS.1, by rw [hU]; exact hW, va_K.moved hWm.alike hK, by rw [hU]; exact hEn.go hB hS hWm⟩⟩ rfl hn hsz hst (lv_room hrm) hdg hf) hS (fun q _ h => h) (fun q h => h) (fun r u t H1 locs1 ht hvm hpost hB1 hz hk hS1 => kk r u H1 locs1 hpost (by rw [← ht]; exact hB1.2.1) hS1)
theorem k_callSi {post : Int32 → PS → Prop} (C : Cx p s m args c cc Ts own D cy B s0) (hml : c.maxLocals = nL) (hM : KI l y ws rm D cy B s0 As S post mc ms) (cw : CallB R s args own index y bytes maxL ret ws rm mc ms n ∧ (Cond.static y).before args s = true) (hW : PW D cy B S H) (hS : va_S (Aw B) s.heap H locs) (hB : B ≤ s.heap.size) (hn : As.length = n) (hsz : ls.size = nL) (hst : st0 = As.reverse ++ rest) (hrm : (rest.map fun v => v.category).sum ≤ 8) (hdg : decode cc pc = .ok (.invokestatic index, 3)) (hf : cells + mc ≤ R.cells ∧ slots + ms ≤ R.slots) (kk : ∀ (r : Int32) (S1 : PS) (H1 : Heap) (locs1 : List Loc), post r S1 → PW D cy B S1 H1 → va_S (Aw B) s.heap H1 locs1 → W p l e R s m args below meth c H1 locs1 (cells + mc) (slots + ms) Q (F0 m (pc + 3) ls (.int r :: rest))) : W p l e R s m args below meth c H locs cells slots Q (F0 m pc ls st0) := by
  obtain ⟨hx, hb, hts, hown, hK, hEn⟩ := C
  exact va_calli (va_runS (As := As) (rest := rest) ⟨hx, hb, hml, hown, hts⟩ hM cw ⟨PreW.blind, fun U hU hWm => ⟨rfl, by rw [hU]; exact Nat.le_trans hB hS.1, by rw [hU]; exact hW, va_K.moved hWm.alike hK, by rw [hU]; exact hEn.go hB hS hWm⟩⟩ rfl hn hsz hst (lv_room hrm) hdg hf) hS (fun q _ h => h) (fun q h => h) (fun r u t H1 locs1 ht hvm hpost hB1 hz hk hS1 => kk r u H1 locs1 hpost (by rw [← ht]; exact hB1.2.1) hS1)
theorem k_callVl {post : Int64 → PS → Prop} {ci : Nat} {fs : List Value} {T : u_T} {N : Nat} (C : Cx p s m args c cc Ts own D cy B s0) (hml : c.maxLocals = nL) (hM : KL l y ws rm D cy B s0 (.ref b :: As) S post mc ms) (cw : CallW R s args own Cn index y bytes maxL ret ws rm mc ms n) (hW : PW D cy B S H) (hS : va_S (Aw B) s.heap H locs) (hB : B ≤ s.heap.size) (hL : b ∈ pL S) (hF : pF cy S b = .inr (ci, fs)) (hc : vwCl[ci]? = some (Cn, T, N)) (hn : As.length = n) (hsz : ls.size = nL) (hst : st0 = As.reverse ++ .ref b :: rest) (hrm : (rest.map fun v => v.category).sum ≤ 8) (hdg : decode cc pc = .ok (.invokevirtual index, 3)) (hf : cells + mc ≤ R.cells ∧ slots + ms ≤ R.slots) (kk : ∀ (r : Int64) (S1 : PS) (H1 : Heap) (locs1 : List Loc), post r S1 → PW D cy B S1 H1 → va_S (Aw B) s.heap H1 locs1 → W p l e R s m args below meth c H1 locs1 (cells + mc) (slots + ms) Q (F0 m (pc + 3) ls (.long r :: rest))) : W p l e R s m args below meth c H locs cells slots Q (F0 m pc ls st0) := by
  obtain ⟨hx, hb, hts, hown, hK, hEn⟩ := C
  obtain ⟨k0, hk0⟩ := va_pl_get (X := []) (f := pF cy S) hL
  rw [hF] at hk0
  exact va_calll (va_runV (As := As) (rest := rest) ⟨hx, hb, hml, hown, hts⟩ hM cw ⟨PreW.blind, va_recv hK hW.1 (ci := ci) (q0 := k0) hc hk0, fun U hU hWm => ⟨rfl, by rw [hU]; exact Nat.le_trans hB hS.1, by rw [hU]; exact hW, va_K.moved hWm.alike hK, by rw [hU]; exact hEn.go hB hS hWm⟩⟩ rfl hn hsz hst (lv_room hrm) hdg hf) hS (fun q _ h => h) (fun q h => h) (fun r u t H1 locs1 ht hvm hpost hB1 hz hk hS1 => kk r u H1 locs1 hpost (by rw [← ht]; exact hB1.2.1) hS1)
theorem k_callSl {post : Int64 → PS → Prop} (C : Cx p s m args c cc Ts own D cy B s0) (hml : c.maxLocals = nL) (hM : KL l y ws rm D cy B s0 As S post mc ms) (cw : CallB R s args own index y bytes maxL ret ws rm mc ms n ∧ (Cond.static y).before args s = true) (hW : PW D cy B S H) (hS : va_S (Aw B) s.heap H locs) (hB : B ≤ s.heap.size) (hn : As.length = n) (hsz : ls.size = nL) (hst : st0 = As.reverse ++ rest) (hrm : (rest.map fun v => v.category).sum ≤ 8) (hdg : decode cc pc = .ok (.invokestatic index, 3)) (hf : cells + mc ≤ R.cells ∧ slots + ms ≤ R.slots) (kk : ∀ (r : Int64) (S1 : PS) (H1 : Heap) (locs1 : List Loc), post r S1 → PW D cy B S1 H1 → va_S (Aw B) s.heap H1 locs1 → W p l e R s m args below meth c H1 locs1 (cells + mc) (slots + ms) Q (F0 m (pc + 3) ls (.long r :: rest))) : W p l e R s m args below meth c H locs cells slots Q (F0 m pc ls st0) := by
  obtain ⟨hx, hb, hts, hown, hK, hEn⟩ := C
  exact va_calll (va_runS (As := As) (rest := rest) ⟨hx, hb, hml, hown, hts⟩ hM cw ⟨PreW.blind, fun U hU hWm => ⟨rfl, by rw [hU]; exact Nat.le_trans hB hS.1, by rw [hU]; exact hW, va_K.moved hWm.alike hK, by rw [hU]; exact hEn.go hB hS hWm⟩⟩ rfl hn hsz hst (lv_room hrm) hdg hf) hS (fun q _ h => h) (fun q h => h) (fun r u t H1 locs1 ht hvm hpost hB1 hz hk hS1 => kk r u H1 locs1 hpost (by rw [← ht]; exact hB1.2.1) hS1)
theorem k_callVv {post : PS → Prop} {ci : Nat} {fs : List Value} {T : u_T} {N : Nat} (C : Cx p s m args c cc Ts own D cy B s0) (hml : c.maxLocals = nL) (hM : KV l y ws rm D cy B s0 (.ref b :: As) S post mc ms) (cw : CallW R s args own Cn index y bytes maxL ret ws rm mc ms n) (hW : PW D cy B S H) (hS : va_S (Aw B) s.heap H locs) (hB : B ≤ s.heap.size) (hL : b ∈ pL S) (hF : pF cy S b = .inr (ci, fs)) (hc : vwCl[ci]? = some (Cn, T, N)) (hn : As.length = n) (hsz : ls.size = nL) (hst : st0 = As.reverse ++ .ref b :: rest) (hrm : (rest.map fun v => v.category).sum ≤ 8) (hdg : decode cc pc = .ok (.invokevirtual index, 3)) (hf : cells + mc ≤ R.cells ∧ slots + ms ≤ R.slots) (kk : ∀ (S1 : PS) (H1 : Heap) (locs1 : List Loc), post S1 → PW D cy B S1 H1 → va_S (Aw B) s.heap H1 locs1 → W p l e R s m args below meth c H1 locs1 (cells + mc) (slots + ms) Q (F0 m (pc + 3) ls (rest))) : W p l e R s m args below meth c H locs cells slots Q (F0 m pc ls st0) := by
  obtain ⟨hx, hb, hts, hown, hK, hEn⟩ := C
  obtain ⟨k0, hk0⟩ := va_pl_get (X := []) (f := pF cy S) hL
  rw [hF] at hk0
  exact va_callv (va_runV (As := As) (rest := rest) ⟨hx, hb, hml, hown, hts⟩ hM cw ⟨PreW.blind, va_recv hK hW.1 (ci := ci) (q0 := k0) hc hk0, fun U hU hWm => ⟨rfl, by rw [hU]; exact Nat.le_trans hB hS.1, by rw [hU]; exact hW, va_K.moved hWm.alike hK, by rw [hU]; exact hEn.go hB hS hWm⟩⟩ rfl hn hsz hst (lv_room hrm) hdg hf) hS (fun q _ h => h) (fun q h => h) (fun u t H1 locs1 ht hvm hpost hB1 hz hk hS1 => kk u H1 locs1 hpost (by rw [← ht]; exact hB1.2.1) hS1)
theorem k_callSv {post : PS → Prop} (C : Cx p s m args c cc Ts own D cy B s0) (hml : c.maxLocals = nL) (hM : KV l y ws rm D cy B s0 As S post mc ms) (cw : CallB R s args own index y bytes maxL ret ws rm mc ms n ∧ (Cond.static y).before args s = true) (hW : PW D cy B S H) (hS : va_S (Aw B) s.heap H locs) (hB : B ≤ s.heap.size) (hn : As.length = n) (hsz : ls.size = nL) (hst : st0 = As.reverse ++ rest) (hrm : (rest.map fun v => v.category).sum ≤ 8) (hdg : decode cc pc = .ok (.invokestatic index, 3)) (hf : cells + mc ≤ R.cells ∧ slots + ms ≤ R.slots) (kk : ∀ (S1 : PS) (H1 : Heap) (locs1 : List Loc), post S1 → PW D cy B S1 H1 → va_S (Aw B) s.heap H1 locs1 → W p l e R s m args below meth c H1 locs1 (cells + mc) (slots + ms) Q (F0 m (pc + 3) ls (rest))) : W p l e R s m args below meth c H locs cells slots Q (F0 m pc ls st0) := by
  obtain ⟨hx, hb, hts, hown, hK, hEn⟩ := C
  exact va_callv (va_runS (As := As) (rest := rest) ⟨hx, hb, hml, hown, hts⟩ hM cw ⟨PreW.blind, fun U hU hWm => ⟨rfl, by rw [hU]; exact Nat.le_trans hB hS.1, by rw [hU]; exact hW, va_K.moved hWm.alike hK, by rw [hU]; exact hEn.go hB hS hWm⟩⟩ rfl hn hsz hst (lv_room hrm) hdg hf) hS (fun q _ h => h) (fun q h => h) (fun u t H1 locs1 ht hvm hpost hB1 hz hk hS1 => kk u H1 locs1 hpost (by rw [← ht]; exact hB1.2.1) hS1)
theorem k_callI {post : PS → Prop} (C : Cx p s m args c cc Ts own D cy B s0) (hml : c.maxLocals = nL) (hM : KV l y ws rm D cy B s0 (.ref b :: As) S post mc ms) (cw : CallB R s args own index y bytes maxL none ws rm mc ms n ∧ y.name = "<init>" ∧ (Cond.instanceMethod y).before args s = true) (hW : PW D cy B S H) (hS : va_S (Aw B) s.heap H locs) (hB : B ≤ s.heap.size) (hn : As.length = n) (hsz : ls.size = nL) (hst : st0 = As.reverse ++ .ref b :: rest) (hrm : (rest.map fun v => v.category).sum ≤ 8) (hdg : decode cc pc = .ok (.invokespecial index, 3)) (hf : cells + mc ≤ R.cells ∧ slots + ms ≤ R.slots) (kk : ∀ (S1 : PS) (H1 : Heap) (locs1 : List Loc), post S1 → PW D cy B S1 H1 → va_S (Aw B) s.heap H1 locs1 → W p l e R s m args below meth c H1 locs1 (cells + mc) (slots + ms) Q (F0 m (pc + 3) ls (rest))) : W p l e R s m args below meth c H locs cells slots Q (F0 m pc ls st0) := by
  obtain ⟨hx, hb, hts, hown, hK, hEn⟩ := C
  exact va_callv (va_runI (As := As) (rest := rest) ⟨hx, hb, hml, hown, hts⟩ hM cw ⟨PreW.blind, fun U hU hWm => ⟨rfl, by rw [hU]; exact Nat.le_trans hB hS.1, by rw [hU]; exact hW, va_K.moved hWm.alike hK, by rw [hU]; exact hEn.go hB hS hWm⟩⟩ rfl hn hsz hst (lv_room hrm) hdg hf) hS (fun q _ h => h) (fun q h => h) (fun u t H1 locs1 ht hvm hpost hB1 hz hk hS1 => kk u H1 locs1 hpost (by rw [← ht]; exact hB1.2.1) hS1)
theorem k_callVq {post : Option Nat → PS → Prop} {ci : Nat} {fs : List Value} {T : u_T} {N : Nat} (C : Cx p s m args c cc Ts own D cy B s0) (hml : c.maxLocals = nL) (hM : KQ l y ws rm D cy B s0 (.ref b :: As) S post mc ms) (cw : CallW R s args own Cn index y bytes maxL ret ws rm mc ms n) (hW : PW D cy B S H) (hS : va_S (Aw B) s.heap H locs) (hB : B ≤ s.heap.size) (hL : b ∈ pL S) (hF : pF cy S b = .inr (ci, fs)) (hc : vwCl[ci]? = some (Cn, T, N)) (hn : As.length = n) (hsz : ls.size = nL) (hst : st0 = As.reverse ++ .ref b :: rest) (hrm : (rest.map fun v => v.category).sum ≤ 8) (hdg : decode cc pc = .ok (.invokevirtual index, 3)) (hf : cells + mc ≤ R.cells ∧ slots + ms ≤ R.slots) (kk : ∀ (r : Option Nat) (S1 : PS) (H1 : Heap) (locs1 : List Loc), post r S1 → PW D cy B S1 H1 → va_S (Aw B) s.heap H1 locs1 → W p l e R s m args below meth c H1 locs1 (cells + mc) (slots + ms) Q (F0 m (pc + 3) ls (va_rf r :: rest))) : W p l e R s m args below meth c H locs cells slots Q (F0 m pc ls st0) := by
  obtain ⟨hx, hb, hts, hown, hK, hEn⟩ := C
  obtain ⟨k0, hk0⟩ := va_pl_get (X := []) (f := pF cy S) hL
  rw [hF] at hk0
  exact va_callq (va_runV (As := As) (rest := rest) ⟨hx, hb, hml, hown, hts⟩ hM cw ⟨PreW.blind, va_recv hK hW.1 (ci := ci) (q0 := k0) hc hk0, fun U hU hWm => ⟨rfl, by rw [hU]; exact Nat.le_trans hB hS.1, by rw [hU]; exact hW, va_K.moved hWm.alike hK, by rw [hU]; exact hEn.go hB hS hWm⟩⟩ rfl hn hsz hst (lv_room hrm) hdg hf) hS (fun q _ h => h) (fun q h => h) (fun r u t H1 locs1 ht hvm hpost hB1 hz hk hS1 => kk r u H1 locs1 hpost (by rw [← ht]; exact hB1.2.1) hS1)
theorem k_callSq {post : Option Nat → PS → Prop} (C : Cx p s m args c cc Ts own D cy B s0) (hml : c.maxLocals = nL) (hM : KQ l y ws rm D cy B s0 As S post mc ms) (cw : CallB R s args own index y bytes maxL ret ws rm mc ms n ∧ (Cond.static y).before args s = true) (hW : PW D cy B S H) (hS : va_S (Aw B) s.heap H locs) (hB : B ≤ s.heap.size) (hn : As.length = n) (hsz : ls.size = nL) (hst : st0 = As.reverse ++ rest) (hrm : (rest.map fun v => v.category).sum ≤ 8) (hdg : decode cc pc = .ok (.invokestatic index, 3)) (hf : cells + mc ≤ R.cells ∧ slots + ms ≤ R.slots) (kk : ∀ (r : Option Nat) (S1 : PS) (H1 : Heap) (locs1 : List Loc), post r S1 → PW D cy B S1 H1 → va_S (Aw B) s.heap H1 locs1 → W p l e R s m args below meth c H1 locs1 (cells + mc) (slots + ms) Q (F0 m (pc + 3) ls (va_rf r :: rest))) : W p l e R s m args below meth c H locs cells slots Q (F0 m pc ls st0) := by
  obtain ⟨hx, hb, hts, hown, hK, hEn⟩ := C
  exact va_callq (va_runS (As := As) (rest := rest) ⟨hx, hb, hml, hown, hts⟩ hM cw ⟨PreW.blind, fun U hU hWm => ⟨rfl, by rw [hU]; exact Nat.le_trans hB hS.1, by rw [hU]; exact hW, va_K.moved hWm.alike hK, by rw [hU]; exact hEn.go hB hS hWm⟩⟩ rfl hn hsz hst (lv_room hrm) hdg hf) hS (fun q _ h => h) (fun q h => h) (fun r u t H1 locs1 ht hvm hpost hB1 hz hk hS1 => kk r u H1 locs1 hpost (by rw [← ht]; exact hB1.2.1) hS1)
end CALLS
