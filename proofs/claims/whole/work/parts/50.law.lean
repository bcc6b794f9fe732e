set_option maxRecDepth 100000 in
set_option maxHeartbeats 1000000 in
theorem law_key {p : Program} {l : Launch} {e : Env} {s : State} {m : MethodId} {below : List Frame} {meth : Method} {c : Code} {D : va_G} {cy : Nat → ClassId} {B : Nat} {s0 : State} {S : PS} {H : Heap} {locs : List Loc} {cells slots : Nat} {Q : State → Prop} {ls : Array Slot} {b L : Nat} {xs : Nat → Int32} {y t : Nat → Nat} {dE mi a ob : Nat} {g : MS} {n : Nat} {f : Nat → Nat} {cN : Nat} {cs : CS} (C : Cx p s m #[Value.ref b] c cL_law wsL_law RL D cy B s0) (hml : c.maxLocals = 7) (hE : EnvC dE mi B s0) (hEx : EnvX B s0) (hls : l.stackTraces = false) (hX : va_X b L xs s s.heap) (hbl : b < s.heap.size) (hbA : ¬ Aw B b) (hB : B ≤ s.heap.size) (hL : L ≤ 2048) (hi : 4 * cN + 3 < L) (hI : LI S y t dE a ob g n f cN cs) (hW : PW D cy B S H) (hS : va_S (Aw B) s.heap H locs) (hl : lv_has ls 7 [(0, .ref b), (1, .ref (y 0)), (2, .ref a), (3, .ref ob), (4, .int (nI (4 * cN)))]) (hf : cells + 308 ≤ 601024 ∧ slots + 2464 ≤ 7293034) (hgo : ∀ S1 H1 locs1 ls1, LJ S1 (y 0) dE a ob (cN + 1) → PW D cy B S1 H1 → va_S (Aw B) s.heap H1 locs1 → lv_has ls1 7 [(0, .ref b), (1, .ref (y 0)), (2, .ref a), (3, .ref ob), (4, .int (nI (4 * cN)))] → W p l e room_1 s m #[Value.ref b] below meth c H1 locs1 (cells + 308) (slots + 2464) Q (F0 m 935 ls1 [])) : W p l e room_1 s m #[Value.ref b] below meth c H locs cells slots Q (F0 m 112 ls []) := by
  obtain ⟨hx, hb, hts, hown, hK, hEn⟩ := id C
  obtain ⟨⟨hC, hCB, hH⟩, hM, hG, h7, ho, hob, hon⟩ := id hI
  obtain ⟨hf1, hf2⟩ := id hf
  have hc : cN < 512 := by omega
  obtain ⟨p0, hp0⟩ : ∃ v, xs (4 * cN + 1) = v := ⟨_, rfl⟩
  obtain ⟨p1, hp1⟩ : ∃ v, xs (4 * cN + 2) = v := ⟨_, rfl⟩
  obtain ⟨p2, hp2⟩ : ∃ v, xs (4 * cN + 3) = v := ⟨_, rfl⟩
  refine lv_aload_n hx hb dL_law_112 rfl (lv_at hl 1 rfl) ?_
  refine lv_aload_n hx hb dL_law_113 rfl (lv_at hl 0 rfl) ?_
  refine lv_iload hx hb dL_law_114 (lv_at hl 4 rfl) ?_
  refine lv_iconst (v := 1) hx hb dL_law_116 (by decide) ?_
  refine lv_iadd hx hb dL_law_117 ?_
  refine top_i (show (nI (4 * cN)) + 1 = nI ((4 * cN) + 1) from nI_add (4 * cN) 1) ?_
  refine k_scr hx hb hX hbl hbA hS (j := ((4 * cN) + 1)) (by omega) hL hp0 dL_law_118 ?_
  refine lv_aload_n hx hb dL_law_119 rfl (lv_at hl 0 rfl) ?_
  refine lv_iload hx hb dL_law_120 (lv_at hl 4 rfl) ?_
  refine lv_iconst (v := 2) hx hb dL_law_122 (by decide) ?_
  refine lv_iadd hx hb dL_law_123 ?_
  refine top_i (show (nI (4 * cN)) + 2 = nI ((4 * cN) + 2) from nI_add (4 * cN) 2) ?_
  refine k_scr hx hb hX hbl hbA hS (j := ((4 * cN) + 2)) (by omega) hL hp1 dL_law_124 ?_
  refine lv_aload_n hx hb dL_law_125 rfl (lv_at hl 0 rfl) ?_
  refine lv_iload hx hb dL_law_126 (lv_at hl 4 rfl) ?_
  refine lv_iconst (v := 3) hx hb dL_law_128 (by decide) ?_
  refine lv_iadd hx hb dL_law_129 ?_
  refine top_i (show (nI (4 * cN)) + 3 = nI ((4 * cN) + 3) from nI_add (4 * cN) 3) ?_
  refine k_scr hx hb hX hbl hbA hS (j := ((4 * cN) + 3)) (by omega) hL hp2 dL_law_130 ?_
  refine k_callSWi (As := [.ref (y 0), .int p0, .int p1, .int p2]) (rest := []) C hml (c_L_key hC hE hEx hls hCB hH hG hc hob hon) (vx_cwSW 4 hts gL_law_L_key rfl rfl rfl (by decide +kernel) ⟨by decide, by decide⟩) hW hS hB rfl hl.1 rfl (Nat.le_of_ble_eq_true rfl) dL_law_131 ⟨show _ ≤ 601024 by omega, show _ ≤ 7293034 by omega⟩ (fun r5 S1 H locs q8 hW hS => ?_)
  have hM1 := hI.mr q8.1
  refine lv_istore (lv' := [(5, .int r5), (0, .ref b), (1, .ref (y 0)), (2, .ref a), (3, .ref ob), (4, .int (nI (4 * cN)))]) hx hb dL_law_134 hl (by decide) rfl (fun ls hl => ?_)
  refine lv_aload_n hx hb dL_law_136 rfl (lv_at hl 3 rfl) ?_
  refine lv_aload_n hx hb dL_law_137 rfl (lv_at hl 1 rfl) ?_
  refine lv_iload hx hb dL_law_138 (lv_at hl 5 rfl) ?_
  refine lv_iconst (v := 1) hx hb dL_law_140 (by decide) ?_
  refine lv_iadd hx hb dL_law_141 ?_
  refine top_i (show (nI (4 * cN)) + 1 = nI ((4 * cN) + 1) from nI_add (4 * cN) 1) ?_
  refine k_scr hx hb hX hbl hbA hS (j := ((4 * cN) + 1)) (by omega) hL hp0 dL_law_142 ?_
  refine lv_aload_n hx hb dL_law_143 rfl (lv_at hl 1 rfl) ?_
  refine lv_iload hx hb dL_law_144 (lv_at hl 5 rfl) ?_
  refine lv_iconst (v := 2) hx hb dL_law_146 (by decide) ?_
  refine lv_iadd hx hb dL_law_147 ?_
  refine top_i (show (nI (4 * cN)) + 2 = nI ((4 * cN) + 2) from nI_add (4 * cN) 2) ?_
  refine k_scr hx hb hX hbl hbA hS (j := ((4 * cN) + 2)) (by omega) hL hp1 dL_law_148 ?_
  refine lv_aload_n hx hb dL_law_149 rfl (lv_at hl 1 rfl) ?_
  refine lv_iload hx hb dL_law_150 (lv_at hl 5 rfl) ?_
  refine lv_iconst (v := 3) hx hb dL_law_152 (by decide) ?_
  refine lv_iadd hx hb dL_law_153 ?_
  refine top_i (show (nI (4 * cN)) + 3 = nI ((4 * cN) + 3) from nI_add (4 * cN) 3) ?_
  refine k_scr hx hb hX hbl hbA hS (j := ((4 * cN) + 3)) (by omega) hL hp2 dL_law_154 ?_
  refine k_callVv (As := [.int p0, .int p1, .int p2]) (rest := []) C hml (c_X11_key hM1 hG.a.nl hG.a.n3) (cwV 3 hts gL_law_X11_key rfl rfl rfl (by decide +kernel) ⟨by decide, by decide⟩) hW hS hB hM1.1.1.1 (pAt_11 hM1.1.1.2) rfl rfl hl.1 rfl (Nat.le_of_ble_eq_true rfl) dL_law_155 ⟨show _ ≤ 601024 by omega, show _ ≤ 7293034 by omega⟩ (fun S3 H locs q9 hW hS => ?_)
  obtain ⟨hO, hM3⟩ := q9
  refine lv_aload_n hx hb dL_law_158 rfl (lv_at hl 3 rfl) ?_
  refine k_callVi (As := []) (rest := []) C hml (c_X11_thrown hM3) (cwV 0 hts gL_law_X11_thrown rfl rfl rfl (by decide +kernel) ⟨by decide, by decide⟩) hW hS hB hM3.1.1.1 (pAt_11 hM3.1.1.2) rfl rfl hl.1 rfl (Nat.le_of_ble_eq_true rfl) dL_law_159 ⟨show _ ≤ 601024 by omega, show _ ≤ 7293034 by omega⟩ (fun r7 S4 H locs q9 hW hS => ?_)
  obtain ⟨eS, e7⟩ := q9
  rw [eS] at hW
  refine lv_iload hx hb dL_law_162 (lv_at hl 0 rfl) ?_
  refine lv_icmp_eq (tgt := 169) hx hb dL_law_164 (by decide) (fun c_164 => ?_) (fun c_164 => absurd (e7.trans (q8.2).symm) c_164)
  refine lv_goto (tgt := 935) hx hb dL_law_169 (by decide) ?_
  exact W.widen (by omega) (by omega) (hgo _ _ _ _ (hI.next q8.1 hO hM3 (nx_key hG)) hW hS (lv_sub hl [1, 2, 3, 4, 5] rfl))
set_option maxRecDepth 100000 in
set_option maxHeartbeats 1000000 in
theorem law_length {p : Program} {l : Launch} {e : Env} {s : State} {m : MethodId} {below : List Frame} {meth : Method} {c : Code} {D : va_G} {cy : Nat → ClassId} {B : Nat} {s0 : State} {S : PS} {H : Heap} {locs : List Loc} {cells slots : Nat} {Q : State → Prop} {ls : Array Slot} {b L : Nat} {xs : Nat → Int32} {y t : Nat → Nat} {dE mi a ob : Nat} {g : MS} {n : Nat} {f : Nat → Nat} {cN : Nat} {cs : CS} (C : Cx p s m #[Value.ref b] c cL_law wsL_law RL D cy B s0) (hml : c.maxLocals = 7) (hE : EnvC dE mi B s0) (hEx : EnvX B s0) (hls : l.stackTraces = false) (hX : va_X b L xs s s.heap) (hbl : b < s.heap.size) (hbA : ¬ Aw B b) (hB : B ≤ s.heap.size) (hL : L ≤ 2048) (hi : 4 * cN + 3 < L) (hI : LI S y t dE a ob g n f cN cs) (hW : PW D cy B S H) (hS : va_S (Aw B) s.heap H locs) (hl : lv_has ls 7 [(0, .ref b), (1, .ref (y 0)), (2, .ref a), (3, .ref ob), (4, .int (nI (4 * cN)))]) (hf : cells + 308 ≤ 601024 ∧ slots + 2464 ≤ 7293034) (hgo : ∀ S1 H1 locs1 ls1, LJ S1 (y 0) dE a ob (cN + 1) → PW D cy B S1 H1 → va_S (Aw B) s.heap H1 locs1 → lv_has ls1 7 [(0, .ref b), (1, .ref (y 0)), (2, .ref a), (3, .ref ob), (4, .int (nI (4 * cN)))] → W p l e room_1 s m #[Value.ref b] below meth c H1 locs1 (cells + 308) (slots + 2464) Q (F0 m 935 ls1 [])) : W p l e room_1 s m #[Value.ref b] below meth c H locs cells slots Q (F0 m 172 ls []) := by
  obtain ⟨hx, hb, hts, hown, hK, hEn⟩ := id C
  obtain ⟨⟨hC, hCB, hH⟩, hM, hG, h7, ho, hob, hon⟩ := id hI
  obtain ⟨hf1, hf2⟩ := id hf
  have hc : cN < 512 := by omega
  obtain ⟨p0, hp0⟩ : ∃ v, xs (4 * cN + 1) = v := ⟨_, rfl⟩
  refine lv_aload_n hx hb dL_law_172 rfl (lv_at hl 1 rfl) ?_
  refine lv_aload_n hx hb dL_law_173 rfl (lv_at hl 0 rfl) ?_
  refine lv_iload hx hb dL_law_174 (lv_at hl 4 rfl) ?_
  refine lv_iconst (v := 1) hx hb dL_law_176 (by decide) ?_
  refine lv_iadd hx hb dL_law_177 ?_
  refine top_i (show (nI (4 * cN)) + 1 = nI ((4 * cN) + 1) from nI_add (4 * cN) 1) ?_
  refine k_scr hx hb hX hbl hbA hS (j := ((4 * cN) + 1)) (by omega) hL hp0 dL_law_178 ?_
  refine k_callSWi (As := [.ref (y 0), .int p0]) (rest := []) C hml (c_L_length hC hE hEx hls hCB hH hG hc hob hon) (vx_cwSW 2 hts gL_law_L_length rfl rfl rfl (by decide +kernel) ⟨by decide, by decide⟩) hW hS hB rfl hl.1 rfl (Nat.le_of_ble_eq_true rfl) dL_law_179 ⟨show _ ≤ 601024 by omega, show _ ≤ 7293034 by omega⟩ (fun r5 S1 H locs q8 hW hS => ?_)
  have hM1 := hI.mr q8.1
  refine lv_istore (lv' := [(5, .int r5), (0, .ref b), (1, .ref (y 0)), (2, .ref a), (3, .ref ob), (4, .int (nI (4 * cN)))]) hx hb dL_law_182 hl (by decide) rfl (fun ls hl => ?_)
  refine lv_aload_n hx hb dL_law_184 rfl (lv_at hl 3 rfl) ?_
  refine lv_aload_n hx hb dL_law_185 rfl (lv_at hl 1 rfl) ?_
  refine lv_iload hx hb dL_law_186 (lv_at hl 5 rfl) ?_
  refine lv_iconst (v := 1) hx hb dL_law_188 (by decide) ?_
  refine lv_iadd hx hb dL_law_189 ?_
  refine top_i (show (nI (4 * cN)) + 1 = nI ((4 * cN) + 1) from nI_add (4 * cN) 1) ?_
  refine k_scr hx hb hX hbl hbA hS (j := ((4 * cN) + 1)) (by omega) hL hp0 dL_law_190 ?_
  refine k_callVv (As := [.int p0]) (rest := []) C hml (c_X11_length hM1 ) (cwV 1 hts gL_law_X11_length rfl rfl rfl (by decide +kernel) ⟨by decide, by decide⟩) hW hS hB hM1.1.1.1 (pAt_11 hM1.1.1.2) rfl rfl hl.1 rfl (Nat.le_of_ble_eq_true rfl) dL_law_191 ⟨show _ ≤ 601024 by omega, show _ ≤ 7293034 by omega⟩ (fun S3 H locs q9 hW hS => ?_)
  obtain ⟨hO, hM3⟩ := q9
  refine lv_aload_n hx hb dL_law_194 rfl (lv_at hl 3 rfl) ?_
  refine k_callVi (As := []) (rest := []) C hml (c_X11_thrown hM3) (cwV 0 hts gL_law_X11_thrown rfl rfl rfl (by decide +kernel) ⟨by decide, by decide⟩) hW hS hB hM3.1.1.1 (pAt_11 hM3.1.1.2) rfl rfl hl.1 rfl (Nat.le_of_ble_eq_true rfl) dL_law_195 ⟨show _ ≤ 601024 by omega, show _ ≤ 7293034 by omega⟩ (fun r7 S4 H locs q9 hW hS => ?_)
  obtain ⟨eS, e7⟩ := q9
  rw [eS] at hW
  refine lv_iload hx hb dL_law_198 (lv_at hl 0 rfl) ?_
  refine lv_icmp_eq (tgt := 205) hx hb dL_law_200 (by decide) (fun c_200 => ?_) (fun c_200 => absurd (e7.trans (q8.2).symm) c_200)
  refine lv_goto (tgt := 935) hx hb dL_law_205 (by decide) ?_
  exact W.widen (by omega) (by omega) (hgo _ _ _ _ (hI.next q8.1 hO hM3 (nx_length hG)) hW hS (lv_sub hl [1, 2, 3, 4, 5] rfl))
set_option maxRecDepth 100000 in
set_option maxHeartbeats 1000000 in
theorem law_weight {p : Program} {l : Launch} {e : Env} {s : State} {m : MethodId} {below : List Frame} {meth : Method} {c : Code} {D : va_G} {cy : Nat → ClassId} {B : Nat} {s0 : State} {S : PS} {H : Heap} {locs : List Loc} {cells slots : Nat} {Q : State → Prop} {ls : Array Slot} {b L : Nat} {xs : Nat → Int32} {y t : Nat → Nat} {dE mi a ob : Nat} {g : MS} {n : Nat} {f : Nat → Nat} {cN : Nat} {cs : CS} (C : Cx p s m #[Value.ref b] c cL_law wsL_law RL D cy B s0) (hml : c.maxLocals = 7) (hE : EnvC dE mi B s0) (hEx : EnvX B s0) (hls : l.stackTraces = false) (hX : va_X b L xs s s.heap) (hbl : b < s.heap.size) (hbA : ¬ Aw B b) (hB : B ≤ s.heap.size) (hL : L ≤ 2048) (hi : 4 * cN + 3 < L) (hI : LI S y t dE a ob g n f cN cs) (hW : PW D cy B S H) (hS : va_S (Aw B) s.heap H locs) (hl : lv_has ls 7 [(0, .ref b), (1, .ref (y 0)), (2, .ref a), (3, .ref ob), (4, .int (nI (4 * cN)))]) (hf : cells + 308 ≤ 601024 ∧ slots + 2464 ≤ 7293034) (hgo : ∀ S1 H1 locs1 ls1, LJ S1 (y 0) dE a ob (cN + 1) → PW D cy B S1 H1 → va_S (Aw B) s.heap H1 locs1 → lv_has ls1 7 [(0, .ref b), (1, .ref (y 0)), (2, .ref a), (3, .ref ob), (4, .int (nI (4 * cN)))] → W p l e room_1 s m #[Value.ref b] below meth c H1 locs1 (cells + 308) (slots + 2464) Q (F0 m 935 ls1 [])) : W p l e room_1 s m #[Value.ref b] below meth c H locs cells slots Q (F0 m 208 ls []) := by
  obtain ⟨hx, hb, hts, hown, hK, hEn⟩ := id C
  obtain ⟨⟨hC, hCB, hH⟩, hM, hG, h7, ho, hob, hon⟩ := id hI
  obtain ⟨hf1, hf2⟩ := id hf
  have hc : cN < 512 := by omega
  obtain ⟨p0, hp0⟩ : ∃ v, xs (4 * cN + 1) = v := ⟨_, rfl⟩
  obtain ⟨p1, hp1⟩ : ∃ v, xs (4 * cN + 2) = v := ⟨_, rfl⟩
  obtain ⟨p2, hp2⟩ : ∃ v, xs (4 * cN + 3) = v := ⟨_, rfl⟩
  refine lv_aload_n hx hb dL_law_208 rfl (lv_at hl 1 rfl) ?_
  refine lv_aload_n hx hb dL_law_209 rfl (lv_at hl 0 rfl) ?_
  refine lv_iload hx hb dL_law_210 (lv_at hl 4 rfl) ?_
  refine lv_iconst (v := 1) hx hb dL_law_212 (by decide) ?_
  refine lv_iadd hx hb dL_law_213 ?_
  refine top_i (show (nI (4 * cN)) + 1 = nI ((4 * cN) + 1) from nI_add (4 * cN) 1) ?_
  refine k_scr hx hb hX hbl hbA hS (j := ((4 * cN) + 1)) (by omega) hL hp0 dL_law_214 ?_
  refine lv_aload_n hx hb dL_law_215 rfl (lv_at hl 0 rfl) ?_
  refine lv_iload hx hb dL_law_216 (lv_at hl 4 rfl) ?_
  refine lv_iconst (v := 2) hx hb dL_law_218 (by decide) ?_
  refine lv_iadd hx hb dL_law_219 ?_
  refine top_i (show (nI (4 * cN)) + 2 = nI ((4 * cN) + 2) from nI_add (4 * cN) 2) ?_
  refine k_scr hx hb hX hbl hbA hS (j := ((4 * cN) + 2)) (by omega) hL hp1 dL_law_220 ?_
  refine lv_aload_n hx hb dL_law_221 rfl (lv_at hl 0 rfl) ?_
  refine lv_iload hx hb dL_law_222 (lv_at hl 4 rfl) ?_
  refine lv_iconst (v := 3) hx hb dL_law_224 (by decide) ?_
  refine lv_iadd hx hb dL_law_225 ?_
  refine top_i (show (nI (4 * cN)) + 3 = nI ((4 * cN) + 3) from nI_add (4 * cN) 3) ?_
  refine k_scr hx hb hX hbl hbA hS (j := ((4 * cN) + 3)) (by omega) hL hp2 dL_law_226 ?_
  refine k_callSWi (As := [.ref (y 0), .int p0, .int p1, .int p2]) (rest := []) C hml (c_L_weight hC hE hEx hls hCB hH hG hc hob hon) (vx_cwSW 4 hts gL_law_L_weight rfl rfl rfl (by decide +kernel) ⟨by decide, by decide⟩) hW hS hB rfl hl.1 rfl (Nat.le_of_ble_eq_true rfl) dL_law_227 ⟨show _ ≤ 601024 by omega, show _ ≤ 7293034 by omega⟩ (fun r5 S1 H locs q8 hW hS => ?_)
  have hM1 := hI.mr q8.1
  refine lv_istore (lv' := [(5, .int r5), (0, .ref b), (1, .ref (y 0)), (2, .ref a), (3, .ref ob), (4, .int (nI (4 * cN)))]) hx hb dL_law_230 hl (by decide) rfl (fun ls hl => ?_)
  refine lv_aload_n hx hb dL_law_232 rfl (lv_at hl 3 rfl) ?_
  refine lv_aload_n hx hb dL_law_233 rfl (lv_at hl 1 rfl) ?_
  refine lv_iload hx hb dL_law_234 (lv_at hl 5 rfl) ?_
  refine lv_iconst (v := 1) hx hb dL_law_236 (by decide) ?_
  refine lv_iadd hx hb dL_law_237 ?_
  refine top_i (show (nI (4 * cN)) + 1 = nI ((4 * cN) + 1) from nI_add (4 * cN) 1) ?_
  refine k_scr hx hb hX hbl hbA hS (j := ((4 * cN) + 1)) (by omega) hL hp0 dL_law_238 ?_
  refine lv_aload_n hx hb dL_law_239 rfl (lv_at hl 1 rfl) ?_
  refine lv_iload hx hb dL_law_240 (lv_at hl 5 rfl) ?_
  refine lv_iconst (v := 2) hx hb dL_law_242 (by decide) ?_
  refine lv_iadd hx hb dL_law_243 ?_
  refine top_i (show (nI (4 * cN)) + 2 = nI ((4 * cN) + 2) from nI_add (4 * cN) 2) ?_
  refine k_scr hx hb hX hbl hbA hS (j := ((4 * cN) + 2)) (by omega) hL hp1 dL_law_244 ?_
  refine lv_aload_n hx hb dL_law_245 rfl (lv_at hl 1 rfl) ?_
  refine lv_iload hx hb dL_law_246 (lv_at hl 5 rfl) ?_
  refine lv_iconst (v := 3) hx hb dL_law_248 (by decide) ?_
  refine lv_iadd hx hb dL_law_249 ?_
  refine top_i (show (nI (4 * cN)) + 3 = nI ((4 * cN) + 3) from nI_add (4 * cN) 3) ?_
  refine k_scr hx hb hX hbl hbA hS (j := ((4 * cN) + 3)) (by omega) hL hp2 dL_law_250 ?_
  refine k_callVv (As := [.int p0, .int p1, .int p2]) (rest := []) C hml (c_X11_weight hM1 ) (cwV 3 hts gL_law_X11_weight rfl rfl rfl (by decide +kernel) ⟨by decide, by decide⟩) hW hS hB hM1.1.1.1 (pAt_11 hM1.1.1.2) rfl rfl hl.1 rfl (Nat.le_of_ble_eq_true rfl) dL_law_251 ⟨show _ ≤ 601024 by omega, show _ ≤ 7293034 by omega⟩ (fun S3 H locs q9 hW hS => ?_)
  obtain ⟨hO, hM3⟩ := q9
  refine lv_aload_n hx hb dL_law_254 rfl (lv_at hl 3 rfl) ?_
  refine k_callVi (As := []) (rest := []) C hml (c_X11_thrown hM3) (cwV 0 hts gL_law_X11_thrown rfl rfl rfl (by decide +kernel) ⟨by decide, by decide⟩) hW hS hB hM3.1.1.1 (pAt_11 hM3.1.1.2) rfl rfl hl.1 rfl (Nat.le_of_ble_eq_true rfl) dL_law_255 ⟨show _ ≤ 601024 by omega, show _ ≤ 7293034 by omega⟩ (fun r7 S4 H locs q9 hW hS => ?_)
  obtain ⟨eS, e7⟩ := q9
  rw [eS] at hW
  refine lv_iload hx hb dL_law_258 (lv_at hl 0 rfl) ?_
  refine lv_icmp_eq (tgt := 265) hx hb dL_law_260 (by decide) (fun c_260 => ?_) (fun c_260 => absurd (e7.trans (q8.2).symm) c_260)
  refine lv_goto (tgt := 935) hx hb dL_law_265 (by decide) ?_
  exact W.widen (by omega) (by omega) (hgo _ _ _ _ (hI.next q8.1 hO hM3 (nx_weight hG)) hW hS (lv_sub hl [1, 2, 3, 4, 5] rfl))
set_option maxRecDepth 100000 in
set_option maxHeartbeats 1000000 in
theorem law_speed {p : Program} {l : Launch} {e : Env} {s : State} {m : MethodId} {below : List Frame} {meth : Method} {c : Code} {D : va_G} {cy : Nat → ClassId} {B : Nat} {s0 : State} {S : PS} {H : Heap} {locs : List Loc} {cells slots : Nat} {Q : State → Prop} {ls : Array Slot} {b L : Nat} {xs : Nat → Int32} {y t : Nat → Nat} {dE mi a ob : Nat} {g : MS} {n : Nat} {f : Nat → Nat} {cN : Nat} {cs : CS} (C : Cx p s m #[Value.ref b] c cL_law wsL_law RL D cy B s0) (hml : c.maxLocals = 7) (hE : EnvC dE mi B s0) (hEx : EnvX B s0) (hls : l.stackTraces = false) (hX : va_X b L xs s s.heap) (hbl : b < s.heap.size) (hbA : ¬ Aw B b) (hB : B ≤ s.heap.size) (hL : L ≤ 2048) (hi : 4 * cN + 3 < L) (hI : LI S y t dE a ob g n f cN cs) (hW : PW D cy B S H) (hS : va_S (Aw B) s.heap H locs) (hl : lv_has ls 7 [(0, .ref b), (1, .ref (y 0)), (2, .ref a), (3, .ref ob), (4, .int (nI (4 * cN)))]) (hf : cells + 308 ≤ 601024 ∧ slots + 2464 ≤ 7293034) (hgo : ∀ S1 H1 locs1 ls1, LJ S1 (y 0) dE a ob (cN + 1) → PW D cy B S1 H1 → va_S (Aw B) s.heap H1 locs1 → lv_has ls1 7 [(0, .ref b), (1, .ref (y 0)), (2, .ref a), (3, .ref ob), (4, .int (nI (4 * cN)))] → W p l e room_1 s m #[Value.ref b] below meth c H1 locs1 (cells + 308) (slots + 2464) Q (F0 m 935 ls1 [])) : W p l e room_1 s m #[Value.ref b] below meth c H locs cells slots Q (F0 m 268 ls []) := by
  obtain ⟨hx, hb, hts, hown, hK, hEn⟩ := id C
  obtain ⟨⟨hC, hCB, hH⟩, hM, hG, h7, ho, hob, hon⟩ := id hI
  obtain ⟨hf1, hf2⟩ := id hf
  have hc : cN < 512 := by omega
  obtain ⟨p0, hp0⟩ : ∃ v, xs (4 * cN + 1) = v := ⟨_, rfl⟩
  obtain ⟨p1, hp1⟩ : ∃ v, xs (4 * cN + 2) = v := ⟨_, rfl⟩
  refine lv_aload_n hx hb dL_law_268 rfl (lv_at hl 1 rfl) ?_
  refine lv_aload_n hx hb dL_law_269 rfl (lv_at hl 0 rfl) ?_
  refine lv_iload hx hb dL_law_270 (lv_at hl 4 rfl) ?_
  refine lv_iconst (v := 1) hx hb dL_law_272 (by decide) ?_
  refine lv_iadd hx hb dL_law_273 ?_
  refine top_i (show (nI (4 * cN)) + 1 = nI ((4 * cN) + 1) from nI_add (4 * cN) 1) ?_
  refine k_scr hx hb hX hbl hbA hS (j := ((4 * cN) + 1)) (by omega) hL hp0 dL_law_274 ?_
  refine lv_aload_n hx hb dL_law_275 rfl (lv_at hl 0 rfl) ?_
  refine lv_iload hx hb dL_law_276 (lv_at hl 4 rfl) ?_
  refine lv_iconst (v := 2) hx hb dL_law_278 (by decide) ?_
  refine lv_iadd hx hb dL_law_279 ?_
  refine top_i (show (nI (4 * cN)) + 2 = nI ((4 * cN) + 2) from nI_add (4 * cN) 2) ?_
  refine k_scr hx hb hX hbl hbA hS (j := ((4 * cN) + 2)) (by omega) hL hp1 dL_law_280 ?_
  refine k_callSWi (As := [.ref (y 0), .int p0, .int p1]) (rest := []) C hml (c_L_speed hC hE hEx hls hCB hH hG hc hob hon) (vx_cwSW 3 hts gL_law_L_speed rfl rfl rfl (by decide +kernel) ⟨by decide, by decide⟩) hW hS hB rfl hl.1 rfl (Nat.le_of_ble_eq_true rfl) dL_law_281 ⟨show _ ≤ 601024 by omega, show _ ≤ 7293034 by omega⟩ (fun r5 S1 H locs q8 hW hS => ?_)
  have hM1 := hI.mr q8.1
  refine lv_istore (lv' := [(5, .int r5), (0, .ref b), (1, .ref (y 0)), (2, .ref a), (3, .ref ob), (4, .int (nI (4 * cN)))]) hx hb dL_law_284 hl (by decide) rfl (fun ls hl => ?_)
  refine lv_aload_n hx hb dL_law_286 rfl (lv_at hl 3 rfl) ?_
  refine lv_aload_n hx hb dL_law_287 rfl (lv_at hl 1 rfl) ?_
  refine lv_iload hx hb dL_law_288 (lv_at hl 5 rfl) ?_
  refine lv_iconst (v := 1) hx hb dL_law_290 (by decide) ?_
  refine lv_iadd hx hb dL_law_291 ?_
  refine top_i (show (nI (4 * cN)) + 1 = nI ((4 * cN) + 1) from nI_add (4 * cN) 1) ?_
  refine k_scr hx hb hX hbl hbA hS (j := ((4 * cN) + 1)) (by omega) hL hp0 dL_law_292 ?_
  refine lv_aload_n hx hb dL_law_293 rfl (lv_at hl 1 rfl) ?_
  refine lv_iload hx hb dL_law_294 (lv_at hl 5 rfl) ?_
  refine lv_iconst (v := 2) hx hb dL_law_296 (by decide) ?_
  refine lv_iadd hx hb dL_law_297 ?_
  refine top_i (show (nI (4 * cN)) + 2 = nI ((4 * cN) + 2) from nI_add (4 * cN) 2) ?_
  refine k_scr hx hb hX hbl hbA hS (j := ((4 * cN) + 2)) (by omega) hL hp1 dL_law_298 ?_
  refine k_callVv (As := [.int p0, .int p1]) (rest := []) C hml (c_X11_speed hM1 ) (cwV 2 hts gL_law_X11_speed rfl rfl rfl (by decide +kernel) ⟨by decide, by decide⟩) hW hS hB hM1.1.1.1 (pAt_11 hM1.1.1.2) rfl rfl hl.1 rfl (Nat.le_of_ble_eq_true rfl) dL_law_299 ⟨show _ ≤ 601024 by omega, show _ ≤ 7293034 by omega⟩ (fun S3 H locs q9 hW hS => ?_)
  obtain ⟨hO, hM3⟩ := q9
  refine lv_aload_n hx hb dL_law_302 rfl (lv_at hl 3 rfl) ?_
  refine k_callVi (As := []) (rest := []) C hml (c_X11_thrown hM3) (cwV 0 hts gL_law_X11_thrown rfl rfl rfl (by decide +kernel) ⟨by decide, by decide⟩) hW hS hB hM3.1.1.1 (pAt_11 hM3.1.1.2) rfl rfl hl.1 rfl (Nat.le_of_ble_eq_true rfl) dL_law_303 ⟨show _ ≤ 601024 by omega, show _ ≤ 7293034 by omega⟩ (fun r7 S4 H locs q9 hW hS => ?_)
  obtain ⟨eS, e7⟩ := q9
  rw [eS] at hW
  refine lv_iload hx hb dL_law_306 (lv_at hl 0 rfl) ?_
  refine lv_icmp_eq (tgt := 313) hx hb dL_law_308 (by decide) (fun c_308 => ?_) (fun c_308 => absurd (e7.trans (q8.2).symm) c_308)
  refine lv_goto (tgt := 935) hx hb dL_law_313 (by decide) ?_
  exact W.widen (by omega) (by omega) (hgo _ _ _ _ (hI.next q8.1 hO hM3 (nx_speed hG)) hW hS (lv_sub hl [1, 2, 3, 4, 5] rfl))
set_option maxRecDepth 100000 in
set_option maxHeartbeats 1000000 in
theorem law_take {p : Program} {l : Launch} {e : Env} {s : State} {m : MethodId} {below : List Frame} {meth : Method} {c : Code} {D : va_G} {cy : Nat → ClassId} {B : Nat} {s0 : State} {S : PS} {H : Heap} {locs : List Loc} {cells slots : Nat} {Q : State → Prop} {ls : Array Slot} {b L : Nat} {xs : Nat → Int32} {y t : Nat → Nat} {dE mi a ob : Nat} {g : MS} {n : Nat} {f : Nat → Nat} {cN : Nat} {cs : CS} (C : Cx p s m #[Value.ref b] c cL_law wsL_law RL D cy B s0) (hml : c.maxLocals = 7) (hE : EnvC dE mi B s0) (hEx : EnvX B s0) (hls : l.stackTraces = false) (hX : va_X b L xs s s.heap) (hbl : b < s.heap.size) (hbA : ¬ Aw B b) (hB : B ≤ s.heap.size) (hL : L ≤ 2048) (hi : 4 * cN + 3 < L) (hI : LI S y t dE a ob g n f cN cs) (hW : PW D cy B S H) (hS : va_S (Aw B) s.heap H locs) (hl : lv_has ls 7 [(0, .ref b), (1, .ref (y 0)), (2, .ref a), (3, .ref ob), (4, .int (nI (4 * cN)))]) (hf : cells + 308 ≤ 601024 ∧ slots + 2464 ≤ 7293034) (hgo : ∀ S1 H1 locs1 ls1, LJ S1 (y 0) dE a ob (cN + 1) → PW D cy B S1 H1 → va_S (Aw B) s.heap H1 locs1 → lv_has ls1 7 [(0, .ref b), (1, .ref (y 0)), (2, .ref a), (3, .ref ob), (4, .int (nI (4 * cN)))] → W p l e room_1 s m #[Value.ref b] below meth c H1 locs1 (cells + 308) (slots + 2464) Q (F0 m 935 ls1 [])) : W p l e room_1 s m #[Value.ref b] below meth c H locs cells slots Q (F0 m 316 ls []) := by
  obtain ⟨hx, hb, hts, hown, hK, hEn⟩ := id C
  obtain ⟨⟨hC, hCB, hH⟩, hM, hG, h7, ho, hob, hon⟩ := id hI
  obtain ⟨hf1, hf2⟩ := id hf
  have hc : cN < 512 := by omega
  obtain ⟨p0, hp0⟩ : ∃ v, xs (4 * cN + 1) = v := ⟨_, rfl⟩
  obtain ⟨p1, hp1⟩ : ∃ v, xs (4 * cN + 2) = v := ⟨_, rfl⟩
  obtain ⟨p2, hp2⟩ : ∃ v, xs (4 * cN + 3) = v := ⟨_, rfl⟩
  refine lv_aload_n hx hb dL_law_316 rfl (lv_at hl 1 rfl) ?_
  refine lv_aload_n hx hb dL_law_317 rfl (lv_at hl 0 rfl) ?_
  refine lv_iload hx hb dL_law_318 (lv_at hl 4 rfl) ?_
  refine lv_iconst (v := 1) hx hb dL_law_320 (by decide) ?_
  refine lv_iadd hx hb dL_law_321 ?_
  refine top_i (show (nI (4 * cN)) + 1 = nI ((4 * cN) + 1) from nI_add (4 * cN) 1) ?_
  refine k_scr hx hb hX hbl hbA hS (j := ((4 * cN) + 1)) (by omega) hL hp0 dL_law_322 ?_
  refine lv_aload_n hx hb dL_law_323 rfl (lv_at hl 0 rfl) ?_
  refine lv_iload hx hb dL_law_324 (lv_at hl 4 rfl) ?_
  refine lv_iconst (v := 2) hx hb dL_law_326 (by decide) ?_
  refine lv_iadd hx hb dL_law_327 ?_
  refine top_i (show (nI (4 * cN)) + 2 = nI ((4 * cN) + 2) from nI_add (4 * cN) 2) ?_
  refine k_scr hx hb hX hbl hbA hS (j := ((4 * cN) + 2)) (by omega) hL hp1 dL_law_328 ?_
  refine lv_aload_n hx hb dL_law_329 rfl (lv_at hl 0 rfl) ?_
  refine lv_iload hx hb dL_law_330 (lv_at hl 4 rfl) ?_
  refine lv_iconst (v := 3) hx hb dL_law_332 (by decide) ?_
  refine lv_iadd hx hb dL_law_333 ?_
  refine top_i (show (nI (4 * cN)) + 3 = nI ((4 * cN) + 3) from nI_add (4 * cN) 3) ?_
  refine k_scr hx hb hX hbl hbA hS (j := ((4 * cN) + 3)) (by omega) hL hp2 dL_law_334 ?_
  refine lv_aload_n hx hb dL_law_335 rfl (lv_at hl 3 rfl) ?_
  refine k_callSWi (As := [.ref (y 0), .int p0, .int p1, .int p2, .ref ob]) (rest := []) C hml (c_L_take hC hE hEx hls hCB hH hG hc hob hon) (vx_cwSW 5 hts gL_law_L_take rfl rfl rfl (by decide +kernel) ⟨by decide, by decide⟩) hW hS hB rfl hl.1 rfl (Nat.le_of_ble_eq_true rfl) dL_law_336 ⟨show _ ≤ 601024 by omega, show _ ≤ 7293034 by omega⟩ (fun r5 S1 H locs q8 hW hS => ?_)
  have hM1 := hI.mr q8.1
  refine lv_istore (lv' := [(5, .int r5), (0, .ref b), (1, .ref (y 0)), (2, .ref a), (3, .ref ob), (4, .int (nI (4 * cN)))]) hx hb dL_law_339 hl (by decide) rfl (fun ls hl => ?_)
  refine lv_aload_n hx hb dL_law_341 rfl (lv_at hl 3 rfl) ?_
  refine lv_aload_n hx hb dL_law_342 rfl (lv_at hl 1 rfl) ?_
  refine lv_iload hx hb dL_law_343 (lv_at hl 5 rfl) ?_
  refine lv_iconst (v := 1) hx hb dL_law_345 (by decide) ?_
  refine lv_iadd hx hb dL_law_346 ?_
  refine top_i (show (nI (4 * cN)) + 1 = nI ((4 * cN) + 1) from nI_add (4 * cN) 1) ?_
  refine k_scr hx hb hX hbl hbA hS (j := ((4 * cN) + 1)) (by omega) hL hp0 dL_law_347 ?_
  refine lv_aload_n hx hb dL_law_348 rfl (lv_at hl 1 rfl) ?_
  refine lv_iload hx hb dL_law_349 (lv_at hl 5 rfl) ?_
  refine lv_iconst (v := 2) hx hb dL_law_351 (by decide) ?_
  refine lv_iadd hx hb dL_law_352 ?_
  refine top_i (show (nI (4 * cN)) + 2 = nI ((4 * cN) + 2) from nI_add (4 * cN) 2) ?_
  refine k_scr hx hb hX hbl hbA hS (j := ((4 * cN) + 2)) (by omega) hL hp1 dL_law_353 ?_
  refine lv_aload_n hx hb dL_law_354 rfl (lv_at hl 1 rfl) ?_
  refine lv_iload hx hb dL_law_355 (lv_at hl 5 rfl) ?_
  refine lv_iconst (v := 3) hx hb dL_law_357 (by decide) ?_
  refine lv_iadd hx hb dL_law_358 ?_
  refine top_i (show (nI (4 * cN)) + 3 = nI ((4 * cN) + 3) from nI_add (4 * cN) 3) ?_
  refine k_scr hx hb hX hbl hbA hS (j := ((4 * cN) + 3)) (by omega) hL hp2 dL_law_359 ?_
  refine k_callVi (As := [.int p0, .int p1, .int p2]) (rest := []) C hml (c_X11_take hM1 hG.a.nl hG.a.n3 (fun gt kk hg _ => hG.c.hok kk hg)) (cwV 3 hts gL_law_X11_take rfl rfl rfl (by decide +kernel) ⟨by decide, by decide⟩) hW hS hB hM1.1.1.1 (pAt_11 hM1.1.1.2) rfl rfl hl.1 rfl (Nat.le_of_ble_eq_true rfl) dL_law_360 ⟨show _ ≤ 601024 by omega, show _ ≤ 7293034 by omega⟩ (fun r6 S3 H locs q9 hW hS => ?_)
  obtain ⟨hO, hM3, e6⟩ := q9
  have hob3 := hI.ob1 q8.1 hO
  have eJ : r5 = 0 → aJ S3 ob 0 = r6.toInt64 := fun z => ((hI.out hO).trans (q8.2.2 z)).trans (congrArg Int32.toInt64 e6.symm)
  refine lv_istore (lv' := [(6, .int r6), (5, .int r5), (0, .ref b), (1, .ref (y 0)), (2, .ref a), (3, .ref ob), (4, .int (nI (4 * cN)))]) hx hb dL_law_363 hl (by decide) rfl (fun ls hl => ?_)
  refine lv_aload_n hx hb dL_law_365 rfl (lv_at hl 4 rfl) ?_
  refine k_callVi (As := []) (rest := []) C hml (c_X11_thrown hM3) (cwV 0 hts gL_law_X11_thrown rfl rfl rfl (by decide +kernel) ⟨by decide, by decide⟩) hW hS hB hM3.1.1.1 (pAt_11 hM3.1.1.2) rfl rfl hl.1 rfl (Nat.le_of_ble_eq_true rfl) dL_law_366 ⟨show _ ≤ 601024 by omega, show _ ≤ 7293034 by omega⟩ (fun r7 S4 H locs q9 hW hS => ?_)
  obtain ⟨eS, e7⟩ := q9
  rw [eS] at hW
  refine lv_iload hx hb dL_law_369 (lv_at hl 1 rfl) ?_
  refine lv_icmp_eq (tgt := 376) hx hb dL_law_371 (by decide) (fun c_371 => ?_) (fun c_371 => absurd (e7.trans (q8.2.1).symm) c_371)
  refine lv_iload hx hb dL_law_376 (lv_at hl 1 rfl) ?_
  refine lv_if_ne (tgt := 400) hx hb dL_law_378 (by decide) (fun c_378 => ?_) (fun c_378 => ?_)
  · refine lv_goto (tgt := 935) hx hb dL_law_400 (by decide) ?_
    exact W.widen (by omega) (by omega) (hgo _ _ _ _ (hI.next q8.1 hO hM3 (nx_take hG)) hW hS (lv_sub hl [2, 3, 4, 5, 6] rfl))
  · refine lv_aload_n hx hb dL_law_381 rfl (lv_at hl 5 rfl) ?_
    refine lv_iconst (v := 0) hx hb dL_law_382 (by decide) ?_
    refine a_Jload C hW (j := 0) hob3.1 hob3.2 rfl (by omega) (by omega) dL_law_383 ?_
    refine lv_iload hx hb dL_law_384 (lv_at hl 0 rfl) ?_
    refine lv_if_eq (tgt := 393) hx hb dL_law_386 (by decide) (fun c_386 => ?_) (fun c_386 => ?_)
    · refine lv_lconst (v := 0) hx hb dL_law_393 (by decide) ?_
      refine lc_eq (tgt := 400) hx hb dL_law_394 dL_law_395 (by decide) (fun c_395 => ?_) (fun c_395 => absurd ((eJ c_378).trans (by rw [c_386]; rfl)) c_395)
      refine lv_goto (tgt := 935) hx hb dL_law_400 (by decide) ?_
      exact W.widen (by omega) (by omega) (hgo _ _ _ _ (hI.next q8.1 hO hM3 (nx_take hG)) hW hS (lv_sub hl [2, 3, 4, 5, 6] rfl))
    · refine lv_lconst (v := 1) hx hb dL_law_389 (by decide) ?_
      refine lv_goto (tgt := 394) hx hb dL_law_390 (by decide) ?_
      refine lc_eq (tgt := 400) hx hb dL_law_394 dL_law_395 (by decide) (fun c_395 => ?_) (fun c_395 => absurd ((eJ c_378).trans (by rw [(mTake_b e6).resolve_left c_386]; rfl)) c_395)
      refine lv_goto (tgt := 935) hx hb dL_law_400 (by decide) ?_
      exact W.widen (by omega) (by omega) (hgo _ _ _ _ (hI.next q8.1 hO hM3 (nx_take hG)) hW hS (lv_sub hl [2, 3, 4, 5, 6] rfl))
set_option maxRecDepth 100000 in
set_option maxHeartbeats 1000000 in
theorem law_work {p : Program} {l : Launch} {e : Env} {s : State} {m : MethodId} {below : List Frame} {meth : Method} {c : Code} {D : va_G} {cy : Nat → ClassId} {B : Nat} {s0 : State} {S : PS} {H : Heap} {locs : List Loc} {cells slots : Nat} {Q : State → Prop} {ls : Array Slot} {b L : Nat} {xs : Nat → Int32} {y t : Nat → Nat} {dE mi a ob : Nat} {g : MS} {n : Nat} {f : Nat → Nat} {cN : Nat} {cs : CS} (C : Cx p s m #[Value.ref b] c cL_law wsL_law RL D cy B s0) (hml : c.maxLocals = 7) (hE : EnvC dE mi B s0) (hEx : EnvX B s0) (hls : l.stackTraces = false) (hX : va_X b L xs s s.heap) (hbl : b < s.heap.size) (hbA : ¬ Aw B b) (hB : B ≤ s.heap.size) (hL : L ≤ 2048) (hi : 4 * cN + 3 < L) (hI : LI S y t dE a ob g n f cN cs) (hW : PW D cy B S H) (hS : va_S (Aw B) s.heap H locs) (hl : lv_has ls 7 [(0, .ref b), (1, .ref (y 0)), (2, .ref a), (3, .ref ob), (4, .int (nI (4 * cN)))]) (hf : cells + 308 ≤ 601024 ∧ slots + 2464 ≤ 7293034) (hgo : ∀ S1 H1 locs1 ls1, LJ S1 (y 0) dE a ob (cN + 1) → PW D cy B S1 H1 → va_S (Aw B) s.heap H1 locs1 → lv_has ls1 7 [(0, .ref b), (1, .ref (y 0)), (2, .ref a), (3, .ref ob), (4, .int (nI (4 * cN)))] → W p l e room_1 s m #[Value.ref b] below meth c H1 locs1 (cells + 308) (slots + 2464) Q (F0 m 935 ls1 [])) : W p l e room_1 s m #[Value.ref b] below meth c H locs cells slots Q (F0 m 403 ls []) := by
  obtain ⟨hx, hb, hts, hown, hK, hEn⟩ := id C
  obtain ⟨⟨hC, hCB, hH⟩, hM, hG, h7, ho, hob, hon⟩ := id hI
  obtain ⟨hf1, hf2⟩ := id hf
  have hc : cN < 512 := by omega
  obtain ⟨p0, hp0⟩ : ∃ v, xs (4 * cN + 1) = v := ⟨_, rfl⟩
  refine lv_aload_n hx hb dL_law_403 rfl (lv_at hl 1 rfl) ?_
  refine lv_aload_n hx hb dL_law_404 rfl (lv_at hl 0 rfl) ?_
  refine lv_iload hx hb dL_law_405 (lv_at hl 4 rfl) ?_
  refine lv_iconst (v := 1) hx hb dL_law_407 (by decide) ?_
  refine lv_iadd hx hb dL_law_408 ?_
  refine top_i (show (nI (4 * cN)) + 1 = nI ((4 * cN) + 1) from nI_add (4 * cN) 1) ?_
  refine k_scr hx hb hX hbl hbA hS (j := ((4 * cN) + 1)) (by omega) hL hp0 dL_law_409 ?_
  refine lv_aload_n hx hb dL_law_410 rfl (lv_at hl 3 rfl) ?_
  refine k_callSWi (As := [.ref (y 0), .int p0, .ref ob]) (rest := []) C hml (c_L_work hC hE hEx hls hCB hH hG hc hob hon) (vx_cwSW 3 hts gL_law_L_work rfl rfl rfl (by decide +kernel) ⟨by decide, by decide⟩) hW hS hB rfl hl.1 rfl (Nat.le_of_ble_eq_true rfl) dL_law_411 ⟨show _ ≤ 601024 by omega, show _ ≤ 7293034 by omega⟩ (fun r5 S1 H locs q8 hW hS => ?_)
  have hM1 := hI.mr q8.1
  refine lv_istore (lv' := [(5, .int r5), (0, .ref b), (1, .ref (y 0)), (2, .ref a), (3, .ref ob), (4, .int (nI (4 * cN)))]) hx hb dL_law_414 hl (by decide) rfl (fun ls hl => ?_)
  refine lv_aload_n hx hb dL_law_416 rfl (lv_at hl 3 rfl) ?_
  refine lv_aload_n hx hb dL_law_417 rfl (lv_at hl 1 rfl) ?_
  refine lv_iload hx hb dL_law_418 (lv_at hl 5 rfl) ?_
  refine lv_iconst (v := 1) hx hb dL_law_420 (by decide) ?_
  refine lv_iadd hx hb dL_law_421 ?_
  refine top_i (show (nI (4 * cN)) + 1 = nI ((4 * cN) + 1) from nI_add (4 * cN) 1) ?_
  refine k_scr hx hb hX hbl hbA hS (j := ((4 * cN) + 1)) (by omega) hL hp0 dL_law_422 ?_
  refine k_callVi (As := [.int p0]) (rest := []) C hml (c_X11_work hM1 hG.a.nl hG.a.n3 hG.b.mo) (cwV 1 hts gL_law_X11_work rfl rfl rfl (by decide +kernel) ⟨by decide, by decide⟩) hW hS hB hM1.1.1.1 (pAt_11 hM1.1.1.2) rfl rfl hl.1 rfl (Nat.le_of_ble_eq_true rfl) dL_law_423 ⟨show _ ≤ 601024 by omega, show _ ≤ 7293034 by omega⟩ (fun r6 S3 H locs q9 hW hS => ?_)
  obtain ⟨hO, hM3, e6⟩ := q9
  have hob3 := hI.ob1 q8.1 hO
  have eJ : r5 = 0 → aJ S3 ob 0 = r6.toInt64 := fun z => ((hI.out hO).trans (q8.2.2 z)).trans (congrArg Int32.toInt64 e6.symm)
  refine lv_istore (lv' := [(6, .int r6), (5, .int r5), (0, .ref b), (1, .ref (y 0)), (2, .ref a), (3, .ref ob), (4, .int (nI (4 * cN)))]) hx hb dL_law_426 hl (by decide) rfl (fun ls hl => ?_)
  refine lv_aload_n hx hb dL_law_428 rfl (lv_at hl 4 rfl) ?_
  refine k_callVi (As := []) (rest := []) C hml (c_X11_thrown hM3) (cwV 0 hts gL_law_X11_thrown rfl rfl rfl (by decide +kernel) ⟨by decide, by decide⟩) hW hS hB hM3.1.1.1 (pAt_11 hM3.1.1.2) rfl rfl hl.1 rfl (Nat.le_of_ble_eq_true rfl) dL_law_429 ⟨show _ ≤ 601024 by omega, show _ ≤ 7293034 by omega⟩ (fun r7 S4 H locs q9 hW hS => ?_)
  obtain ⟨eS, e7⟩ := q9
  rw [eS] at hW
  refine lv_iload hx hb dL_law_432 (lv_at hl 1 rfl) ?_
  refine lv_icmp_eq (tgt := 439) hx hb dL_law_434 (by decide) (fun c_434 => ?_) (fun c_434 => absurd (e7.trans (q8.2.1).symm) c_434)
  refine lv_iload hx hb dL_law_439 (lv_at hl 1 rfl) ?_
  refine lv_if_ne (tgt := 456) hx hb dL_law_441 (by decide) (fun c_441 => ?_) (fun c_441 => ?_)
  · refine lv_goto (tgt := 935) hx hb dL_law_456 (by decide) ?_
    exact W.widen (by omega) (by omega) (hgo _ _ _ _ (hI.next q8.1 hO hM3 (nx_work hG hc (by omega))) hW hS (lv_sub hl [2, 3, 4, 5, 6] rfl))
  · refine lv_aload_n hx hb dL_law_444 rfl (lv_at hl 5 rfl) ?_
    refine lv_iconst (v := 0) hx hb dL_law_445 (by decide) ?_
    refine a_Jload C hW (j := 0) hob3.1 hob3.2 rfl (by omega) (by omega) dL_law_446 ?_
    refine lv_iload hx hb dL_law_447 (lv_at hl 0 rfl) ?_
    refine lv_i2l (v := r6.toInt64) hx hb dL_law_449 rfl ?_
    refine lc_eq (tgt := 456) hx hb dL_law_450 dL_law_451 (by decide) (fun c_451 => ?_) (fun c_451 => absurd (eJ c_441) c_451)
    refine lv_goto (tgt := 935) hx hb dL_law_456 (by decide) ?_
    exact W.widen (by omega) (by omega) (hgo _ _ _ _ (hI.next q8.1 hO hM3 (nx_work hG hc (by omega))) hW hS (lv_sub hl [2, 3, 4, 5, 6] rfl))
set_option maxRecDepth 100000 in
set_option maxHeartbeats 1000000 in
theorem law_carry {p : Program} {l : Launch} {e : Env} {s : State} {m : MethodId} {below : List Frame} {meth : Method} {c : Code} {D : va_G} {cy : Nat → ClassId} {B : Nat} {s0 : State} {S : PS} {H : Heap} {locs : List Loc} {cells slots : Nat} {Q : State → Prop} {ls : Array Slot} {b L : Nat} {xs : Nat → Int32} {y t : Nat → Nat} {dE mi a ob : Nat} {g : MS} {n : Nat} {f : Nat → Nat} {cN : Nat} {cs : CS} (C : Cx p s m #[Value.ref b] c cL_law wsL_law RL D cy B s0) (hml : c.maxLocals = 7) (hE : EnvC dE mi B s0) (hEx : EnvX B s0) (hls : l.stackTraces = false) (hX : va_X b L xs s s.heap) (hbl : b < s.heap.size) (hbA : ¬ Aw B b) (hB : B ≤ s.heap.size) (hL : L ≤ 2048) (hi : 4 * cN + 3 < L) (hI : LI S y t dE a ob g n f cN cs) (hW : PW D cy B S H) (hS : va_S (Aw B) s.heap H locs) (hl : lv_has ls 7 [(0, .ref b), (1, .ref (y 0)), (2, .ref a), (3, .ref ob), (4, .int (nI (4 * cN)))]) (hf : cells + 308 ≤ 601024 ∧ slots + 2464 ≤ 7293034) (hgo : ∀ S1 H1 locs1 ls1, LJ S1 (y 0) dE a ob (cN + 1) → PW D cy B S1 H1 → va_S (Aw B) s.heap H1 locs1 → lv_has ls1 7 [(0, .ref b), (1, .ref (y 0)), (2, .ref a), (3, .ref ob), (4, .int (nI (4 * cN)))] → W p l e room_1 s m #[Value.ref b] below meth c H1 locs1 (cells + 308) (slots + 2464) Q (F0 m 935 ls1 [])) : W p l e room_1 s m #[Value.ref b] below meth c H locs cells slots Q (F0 m 459 ls []) := by
  obtain ⟨hx, hb, hts, hown, hK, hEn⟩ := id C
  obtain ⟨⟨hC, hCB, hH⟩, hM, hG, h7, ho, hob, hon⟩ := id hI
  obtain ⟨hf1, hf2⟩ := id hf
  have hc : cN < 512 := by omega
  obtain ⟨p0, hp0⟩ : ∃ v, xs (4 * cN + 1) = v := ⟨_, rfl⟩
  obtain ⟨gt, kk, h, hF9, hlt9⟩ := cv_all p0 hG
  obtain ⟨f2, hG2⟩ := nx_carry hG hc hF9
  refine lv_aload_n hx hb dL_law_459 rfl (lv_at hl 1 rfl) ?_
  refine lv_aload_n hx hb dL_law_460 rfl (lv_at hl 0 rfl) ?_
  refine lv_iload hx hb dL_law_461 (lv_at hl 4 rfl) ?_
  refine lv_iconst (v := 1) hx hb dL_law_463 (by decide) ?_
  refine lv_iadd hx hb dL_law_464 ?_
  refine top_i (show (nI (4 * cN)) + 1 = nI ((4 * cN) + 1) from nI_add (4 * cN) 1) ?_
  refine k_scr hx hb hX hbl hbA hS (j := ((4 * cN) + 1)) (by omega) hL hp0 dL_law_465 ?_
  refine lv_aload_n hx hb dL_law_466 rfl (lv_at hl 3 rfl) ?_
  refine k_callSWi (As := [.ref (y 0), .int p0, .ref ob]) (rest := []) C hml (c_L_carry hC hE hEx hls hCB hH hG hc hob hon hF9 hlt9) (vx_cwSW 3 hts gL_law_L_carry rfl rfl rfl (by decide +kernel) ⟨by decide, by decide⟩) hW hS hB rfl hl.1 rfl (Nat.le_of_ble_eq_true rfl) dL_law_467 ⟨show _ ≤ 601024 by omega, show _ ≤ 7293034 by omega⟩ (fun r5 S1 H locs q8 hW hS => ?_)
  have hM1 := hI.mr q8.1
  refine lv_istore (lv' := [(5, .int r5), (0, .ref b), (1, .ref (y 0)), (2, .ref a), (3, .ref ob), (4, .int (nI (4 * cN)))]) hx hb dL_law_470 hl (by decide) rfl (fun ls hl => ?_)
  refine lv_aload_n hx hb dL_law_472 rfl (lv_at hl 3 rfl) ?_
  refine lv_aload_n hx hb dL_law_473 rfl (lv_at hl 1 rfl) ?_
  refine lv_iload hx hb dL_law_474 (lv_at hl 5 rfl) ?_
  refine lv_iconst (v := 1) hx hb dL_law_476 (by decide) ?_
  refine lv_iadd hx hb dL_law_477 ?_
  refine top_i (show (nI (4 * cN)) + 1 = nI ((4 * cN) + 1) from nI_add (4 * cN) 1) ?_
  refine k_scr hx hb hX hbl hbA hS (j := ((4 * cN) + 1)) (by omega) hL hp0 dL_law_478 ?_
  refine k_callVi (As := [.int p0]) (rest := []) C hml (c_X11_carry hM1 hG.a.nl hG.a.n3 hG.b.mo hG.a.wo (fun z => (hF9 z).v hG.a.n3) hlt9) (cwV 1 hts gL_law_X11_carry rfl rfl rfl (by decide +kernel) ⟨by decide, by decide⟩) hW hS hB hM1.1.1.1 (pAt_11 hM1.1.1.2) rfl rfl hl.1 rfl (Nat.le_of_ble_eq_true rfl) dL_law_479 ⟨show _ ≤ 601024 by omega, show _ ≤ 7293034 by omega⟩ (fun r6 S3 H locs q9 hW hS => ?_)
  obtain ⟨hO, hM3, e6⟩ := q9
  have hob3 := hI.ob1 q8.1 hO
  have eJ : r5 = 0 → aJ S3 ob 0 = r6.toInt64 := fun z => ((hI.out hO).trans (q8.2.2 z)).trans (congrArg Int32.toInt64 e6.symm)
  refine lv_istore (lv' := [(6, .int r6), (5, .int r5), (0, .ref b), (1, .ref (y 0)), (2, .ref a), (3, .ref ob), (4, .int (nI (4 * cN)))]) hx hb dL_law_482 hl (by decide) rfl (fun ls hl => ?_)
  refine lv_aload_n hx hb dL_law_484 rfl (lv_at hl 4 rfl) ?_
  refine k_callVi (As := []) (rest := []) C hml (c_X11_thrown hM3) (cwV 0 hts gL_law_X11_thrown rfl rfl rfl (by decide +kernel) ⟨by decide, by decide⟩) hW hS hB hM3.1.1.1 (pAt_11 hM3.1.1.2) rfl rfl hl.1 rfl (Nat.le_of_ble_eq_true rfl) dL_law_485 ⟨show _ ≤ 601024 by omega, show _ ≤ 7293034 by omega⟩ (fun r7 S4 H locs q9 hW hS => ?_)
  obtain ⟨eS, e7⟩ := q9
  rw [eS] at hW
  refine lv_iload hx hb dL_law_488 (lv_at hl 1 rfl) ?_
  refine lv_icmp_eq (tgt := 495) hx hb dL_law_490 (by decide) (fun c_490 => ?_) (fun c_490 => absurd (e7.trans (q8.2.1).symm) c_490)
  refine lv_iload hx hb dL_law_495 (lv_at hl 1 rfl) ?_
  refine lv_if_ne (tgt := 519) hx hb dL_law_497 (by decide) (fun c_497 => ?_) (fun c_497 => ?_)
  · refine lv_goto (tgt := 935) hx hb dL_law_519 (by decide) ?_
    exact W.widen (by omega) (by omega) (hgo _ _ _ _ (hI.next q8.1 hO hM3 (hG2)) hW hS (lv_sub hl [2, 3, 4, 5, 6] rfl))
  · refine lv_aload_n hx hb dL_law_500 rfl (lv_at hl 5 rfl) ?_
    refine lv_iconst (v := 0) hx hb dL_law_501 (by decide) ?_
    refine a_Jload C hW (j := 0) hob3.1 hob3.2 rfl (by omega) (by omega) dL_law_502 ?_
    refine lv_iload hx hb dL_law_503 (lv_at hl 0 rfl) ?_
    refine lv_if_eq (tgt := 512) hx hb dL_law_505 (by decide) (fun c_505 => ?_) (fun c_505 => ?_)
    · refine lv_lconst (v := 0) hx hb dL_law_512 (by decide) ?_
      refine lc_eq (tgt := 519) hx hb dL_law_513 dL_law_514 (by decide) (fun c_514 => ?_) (fun c_514 => absurd ((eJ c_497).trans (by rw [c_505]; rfl)) c_514)
      refine lv_goto (tgt := 935) hx hb dL_law_519 (by decide) ?_
      exact W.widen (by omega) (by omega) (hgo _ _ _ _ (hI.next q8.1 hO hM3 (hG2)) hW hS (lv_sub hl [2, 3, 4, 5, 6] rfl))
    · refine lv_lconst (v := 1) hx hb dL_law_508 (by decide) ?_
      refine lv_goto (tgt := 513) hx hb dL_law_509 (by decide) ?_
      refine lc_eq (tgt := 519) hx hb dL_law_513 dL_law_514 (by decide) (fun c_514 => ?_) (fun c_514 => absurd ((eJ c_497).trans (by rw [(mCarry_b e6).resolve_left c_505]; rfl)) c_514)
      refine lv_goto (tgt := 935) hx hb dL_law_519 (by decide) ?_
      exact W.widen (by omega) (by omega) (hgo _ _ _ _ (hI.next q8.1 hO hM3 (hG2)) hW hS (lv_sub hl [2, 3, 4, 5, 6] rfl))
set_option maxRecDepth 100000 in
set_option maxHeartbeats 1000000 in
theorem law_drop {p : Program} {l : Launch} {e : Env} {s : State} {m : MethodId} {below : List Frame} {meth : Method} {c : Code} {D : va_G} {cy : Nat → ClassId} {B : Nat} {s0 : State} {S : PS} {H : Heap} {locs : List Loc} {cells slots : Nat} {Q : State → Prop} {ls : Array Slot} {b L : Nat} {xs : Nat → Int32} {y t : Nat → Nat} {dE mi a ob : Nat} {g : MS} {n : Nat} {f : Nat → Nat} {cN : Nat} {cs : CS} (C : Cx p s m #[Value.ref b] c cL_law wsL_law RL D cy B s0) (hml : c.maxLocals = 7) (hE : EnvC dE mi B s0) (hEx : EnvX B s0) (hls : l.stackTraces = false) (hX : va_X b L xs s s.heap) (hbl : b < s.heap.size) (hbA : ¬ Aw B b) (hB : B ≤ s.heap.size) (hL : L ≤ 2048) (hi : 4 * cN + 3 < L) (hI : LI S y t dE a ob g n f cN cs) (hW : PW D cy B S H) (hS : va_S (Aw B) s.heap H locs) (hl : lv_has ls 7 [(0, .ref b), (1, .ref (y 0)), (2, .ref a), (3, .ref ob), (4, .int (nI (4 * cN)))]) (hf : cells + 308 ≤ 601024 ∧ slots + 2464 ≤ 7293034) (hgo : ∀ S1 H1 locs1 ls1, LJ S1 (y 0) dE a ob (cN + 1) → PW D cy B S1 H1 → va_S (Aw B) s.heap H1 locs1 → lv_has ls1 7 [(0, .ref b), (1, .ref (y 0)), (2, .ref a), (3, .ref ob), (4, .int (nI (4 * cN)))] → W p l e room_1 s m #[Value.ref b] below meth c H1 locs1 (cells + 308) (slots + 2464) Q (F0 m 935 ls1 [])) : W p l e room_1 s m #[Value.ref b] below meth c H locs cells slots Q (F0 m 522 ls []) := by
  obtain ⟨hx, hb, hts, hown, hK, hEn⟩ := id C
  obtain ⟨⟨hC, hCB, hH⟩, hM, hG, h7, ho, hob, hon⟩ := id hI
  obtain ⟨hf1, hf2⟩ := id hf
  have hc : cN < 512 := by omega
  obtain ⟨p0, hp0⟩ : ∃ v, xs (4 * cN + 1) = v := ⟨_, rfl⟩
  refine lv_aload_n hx hb dL_law_522 rfl (lv_at hl 1 rfl) ?_
  refine lv_aload_n hx hb dL_law_523 rfl (lv_at hl 0 rfl) ?_
  refine lv_iload hx hb dL_law_524 (lv_at hl 4 rfl) ?_
  refine lv_iconst (v := 1) hx hb dL_law_526 (by decide) ?_
  refine lv_iadd hx hb dL_law_527 ?_
  refine top_i (show (nI (4 * cN)) + 1 = nI ((4 * cN) + 1) from nI_add (4 * cN) 1) ?_
  refine k_scr hx hb hX hbl hbA hS (j := ((4 * cN) + 1)) (by omega) hL hp0 dL_law_528 ?_
  refine k_callSWi (As := [.ref (y 0), .int p0]) (rest := []) C hml (c_L_drop hC hE hEx hls hCB hH hG hc hob hon) (vx_cwSW 2 hts gL_law_L_drop rfl rfl rfl (by decide +kernel) ⟨by decide, by decide⟩) hW hS hB rfl hl.1 rfl (Nat.le_of_ble_eq_true rfl) dL_law_529 ⟨show _ ≤ 601024 by omega, show _ ≤ 7293034 by omega⟩ (fun r5 S1 H locs q8 hW hS => ?_)
  have hM1 := hI.mr q8.1
  refine lv_istore (lv' := [(5, .int r5), (0, .ref b), (1, .ref (y 0)), (2, .ref a), (3, .ref ob), (4, .int (nI (4 * cN)))]) hx hb dL_law_532 hl (by decide) rfl (fun ls hl => ?_)
  refine lv_aload_n hx hb dL_law_534 rfl (lv_at hl 3 rfl) ?_
  refine lv_aload_n hx hb dL_law_535 rfl (lv_at hl 1 rfl) ?_
  refine lv_iload hx hb dL_law_536 (lv_at hl 5 rfl) ?_
  refine lv_iconst (v := 1) hx hb dL_law_538 (by decide) ?_
  refine lv_iadd hx hb dL_law_539 ?_
  refine top_i (show (nI (4 * cN)) + 1 = nI ((4 * cN) + 1) from nI_add (4 * cN) 1) ?_
  refine k_scr hx hb hX hbl hbA hS (j := ((4 * cN) + 1)) (by omega) hL hp0 dL_law_540 ?_
  refine k_callVv (As := [.int p0]) (rest := []) C hml (c_X11_drop hM1 hG.b.mo) (cwV 1 hts gL_law_X11_drop rfl rfl rfl (by decide +kernel) ⟨by decide, by decide⟩) hW hS hB hM1.1.1.1 (pAt_11 hM1.1.1.2) rfl rfl hl.1 rfl (Nat.le_of_ble_eq_true rfl) dL_law_541 ⟨show _ ≤ 601024 by omega, show _ ≤ 7293034 by omega⟩ (fun S3 H locs q9 hW hS => ?_)
  obtain ⟨hO, hM3⟩ := q9
  refine lv_aload_n hx hb dL_law_544 rfl (lv_at hl 3 rfl) ?_
  refine k_callVi (As := []) (rest := []) C hml (c_X11_thrown hM3) (cwV 0 hts gL_law_X11_thrown rfl rfl rfl (by decide +kernel) ⟨by decide, by decide⟩) hW hS hB hM3.1.1.1 (pAt_11 hM3.1.1.2) rfl rfl hl.1 rfl (Nat.le_of_ble_eq_true rfl) dL_law_545 ⟨show _ ≤ 601024 by omega, show _ ≤ 7293034 by omega⟩ (fun r7 S4 H locs q9 hW hS => ?_)
  obtain ⟨eS, e7⟩ := q9
  rw [eS] at hW
  refine lv_iload hx hb dL_law_548 (lv_at hl 0 rfl) ?_
  refine lv_icmp_eq (tgt := 555) hx hb dL_law_550 (by decide) (fun c_550 => ?_) (fun c_550 => absurd (e7.trans (q8.2).symm) c_550)
  refine lv_goto (tgt := 935) hx hb dL_law_555 (by decide) ?_
  exact W.widen (by omega) (by omega) (hgo _ _ _ _ (hI.next q8.1 hO hM3 (nx_drop hG)) hW hS (lv_sub hl [1, 2, 3, 4, 5] rfl))
set_option maxRecDepth 100000 in
set_option maxHeartbeats 1000000 in
theorem law_tick {p : Program} {l : Launch} {e : Env} {s : State} {m : MethodId} {below : List Frame} {meth : Method} {c : Code} {D : va_G} {cy : Nat → ClassId} {B : Nat} {s0 : State} {S : PS} {H : Heap} {locs : List Loc} {cells slots : Nat} {Q : State → Prop} {ls : Array Slot} {b L : Nat} {xs : Nat → Int32} {y t : Nat → Nat} {dE mi a ob : Nat} {g : MS} {n : Nat} {f : Nat → Nat} {cN : Nat} {cs : CS} (C : Cx p s m #[Value.ref b] c cL_law wsL_law RL D cy B s0) (hml : c.maxLocals = 7) (hE : EnvC dE mi B s0) (hEx : EnvX B s0) (hls : l.stackTraces = false) (hX : va_X b L xs s s.heap) (hbl : b < s.heap.size) (hbA : ¬ Aw B b) (hB : B ≤ s.heap.size) (hL : L ≤ 2048) (hi : 4 * cN + 3 < L) (hI : LI S y t dE a ob g n f cN cs) (hW : PW D cy B S H) (hS : va_S (Aw B) s.heap H locs) (hl : lv_has ls 7 [(0, .ref b), (1, .ref (y 0)), (2, .ref a), (3, .ref ob), (4, .int (nI (4 * cN)))]) (hf : cells + 308 ≤ 601024 ∧ slots + 2464 ≤ 7293034) (hgo : ∀ S1 H1 locs1 ls1, LJ S1 (y 0) dE a ob (cN + 1) → PW D cy B S1 H1 → va_S (Aw B) s.heap H1 locs1 → lv_has ls1 7 [(0, .ref b), (1, .ref (y 0)), (2, .ref a), (3, .ref ob), (4, .int (nI (4 * cN)))] → W p l e room_1 s m #[Value.ref b] below meth c H1 locs1 (cells + 308) (slots + 2464) Q (F0 m 935 ls1 [])) : W p l e room_1 s m #[Value.ref b] below meth c H locs cells slots Q (F0 m 558 ls []) := by
  obtain ⟨hx, hb, hts, hown, hK, hEn⟩ := id C
  obtain ⟨⟨hC, hCB, hH⟩, hM, hG, h7, ho, hob, hon⟩ := id hI
  obtain ⟨hf1, hf2⟩ := id hf
  have hc : cN < 512 := by omega
  obtain ⟨p0, hp0⟩ : ∃ v, xs (4 * cN + 1) = v := ⟨_, rfl⟩
  refine lv_aload_n hx hb dL_law_558 rfl (lv_at hl 1 rfl) ?_
  refine lv_aload_n hx hb dL_law_559 rfl (lv_at hl 0 rfl) ?_
  refine lv_iload hx hb dL_law_560 (lv_at hl 4 rfl) ?_
  refine lv_iconst (v := 1) hx hb dL_law_562 (by decide) ?_
  refine lv_iadd hx hb dL_law_563 ?_
  refine top_i (show (nI (4 * cN)) + 1 = nI ((4 * cN) + 1) from nI_add (4 * cN) 1) ?_
  refine k_scr hx hb hX hbl hbA hS (j := ((4 * cN) + 1)) (by omega) hL hp0 dL_law_564 ?_
  refine k_callSWi (As := [.ref (y 0), .int p0]) (rest := []) C hml (c_L_tick hC hE hEx hls hCB hH hG hc hob hon) (vx_cwSW 2 hts gL_law_L_tick rfl rfl rfl (by decide +kernel) ⟨by decide, by decide⟩) hW hS hB rfl hl.1 rfl (Nat.le_of_ble_eq_true rfl) dL_law_565 ⟨show _ ≤ 601024 by omega, show _ ≤ 7293034 by omega⟩ (fun r5 S1 H locs q8 hW hS => ?_)
  have hM1 := hI.mr q8.1
  refine lv_istore (lv' := [(5, .int r5), (0, .ref b), (1, .ref (y 0)), (2, .ref a), (3, .ref ob), (4, .int (nI (4 * cN)))]) hx hb dL_law_568 hl (by decide) rfl (fun ls hl => ?_)
  refine lv_aload_n hx hb dL_law_570 rfl (lv_at hl 3 rfl) ?_
  refine lv_aload_n hx hb dL_law_571 rfl (lv_at hl 1 rfl) ?_
  refine lv_iload hx hb dL_law_572 (lv_at hl 5 rfl) ?_
  refine lv_iconst (v := 1) hx hb dL_law_574 (by decide) ?_
  refine lv_iadd hx hb dL_law_575 ?_
  refine top_i (show (nI (4 * cN)) + 1 = nI ((4 * cN) + 1) from nI_add (4 * cN) 1) ?_
  refine k_scr hx hb hX hbl hbA hS (j := ((4 * cN) + 1)) (by omega) hL hp0 dL_law_576 ?_
  refine k_callVv (As := [.int p0]) (rest := []) C hml (c_X11_tick hM1 hG.a.nl hG.a.n3) (cwV 1 hts gL_law_X11_tick rfl rfl rfl (by decide +kernel) ⟨by decide, by decide⟩) hW hS hB hM1.1.1.1 (pAt_11 hM1.1.1.2) rfl rfl hl.1 rfl (Nat.le_of_ble_eq_true rfl) dL_law_577 ⟨show _ ≤ 601024 by omega, show _ ≤ 7293034 by omega⟩ (fun S3 H locs q9 hW hS => ?_)
  obtain ⟨hO, hM3⟩ := q9
  refine lv_aload_n hx hb dL_law_580 rfl (lv_at hl 3 rfl) ?_
  refine k_callVi (As := []) (rest := []) C hml (c_X11_thrown hM3) (cwV 0 hts gL_law_X11_thrown rfl rfl rfl (by decide +kernel) ⟨by decide, by decide⟩) hW hS hB hM3.1.1.1 (pAt_11 hM3.1.1.2) rfl rfl hl.1 rfl (Nat.le_of_ble_eq_true rfl) dL_law_581 ⟨show _ ≤ 601024 by omega, show _ ≤ 7293034 by omega⟩ (fun r7 S4 H locs q9 hW hS => ?_)
  obtain ⟨eS, e7⟩ := q9
  rw [eS] at hW
  refine lv_iload hx hb dL_law_584 (lv_at hl 0 rfl) ?_
  refine lv_icmp_eq (tgt := 591) hx hb dL_law_586 (by decide) (fun c_586 => ?_) (fun c_586 => absurd (e7.trans (q8.2).symm) c_586)
  refine lv_goto (tgt := 935) hx hb dL_law_591 (by decide) ?_
  exact W.widen (by omega) (by omega) (hgo _ _ _ _ (hI.next q8.1 hO hM3 (nx_tick hG hc)) hW hS (lv_sub hl [1, 2, 3, 4, 5] rfl))
set_option maxRecDepth 100000 in
set_option maxHeartbeats 1000000 in
theorem law_restart {p : Program} {l : Launch} {e : Env} {s : State} {m : MethodId} {below : List Frame} {meth : Method} {c : Code} {D : va_G} {cy : Nat → ClassId} {B : Nat} {s0 : State} {S : PS} {H : Heap} {locs : List Loc} {cells slots : Nat} {Q : State → Prop} {ls : Array Slot} {b L : Nat} {xs : Nat → Int32} {y t : Nat → Nat} {dE mi a ob : Nat} {g : MS} {n : Nat} {f : Nat → Nat} {cN : Nat} {cs : CS} (C : Cx p s m #[Value.ref b] c cL_law wsL_law RL D cy B s0) (hml : c.maxLocals = 7) (hE : EnvC dE mi B s0) (hEx : EnvX B s0) (hls : l.stackTraces = false) (hX : va_X b L xs s s.heap) (hbl : b < s.heap.size) (hbA : ¬ Aw B b) (hB : B ≤ s.heap.size) (hL : L ≤ 2048) (hi : 4 * cN + 3 < L) (hI : LI S y t dE a ob g n f cN cs) (hW : PW D cy B S H) (hS : va_S (Aw B) s.heap H locs) (hl : lv_has ls 7 [(0, .ref b), (1, .ref (y 0)), (2, .ref a), (3, .ref ob), (4, .int (nI (4 * cN)))]) (hf : cells + 308 ≤ 601024 ∧ slots + 2464 ≤ 7293034) (hgo : ∀ S1 H1 locs1 ls1, LJ S1 (y 0) dE a ob (cN + 1) → PW D cy B S1 H1 → va_S (Aw B) s.heap H1 locs1 → lv_has ls1 7 [(0, .ref b), (1, .ref (y 0)), (2, .ref a), (3, .ref ob), (4, .int (nI (4 * cN)))] → W p l e room_1 s m #[Value.ref b] below meth c H1 locs1 (cells + 308) (slots + 2464) Q (F0 m 935 ls1 [])) : W p l e room_1 s m #[Value.ref b] below meth c H locs cells slots Q (F0 m 594 ls []) := by
  obtain ⟨hx, hb, hts, hown, hK, hEn⟩ := id C
  obtain ⟨⟨hC, hCB, hH⟩, hM, hG, h7, ho, hob, hon⟩ := id hI
  obtain ⟨hf1, hf2⟩ := id hf
  have hc : cN < 512 := by omega
  obtain ⟨p0, hp0⟩ : ∃ v, xs (4 * cN + 1) = v := ⟨_, rfl⟩
  refine lv_aload_n hx hb dL_law_594 rfl (lv_at hl 1 rfl) ?_
  refine lv_aload_n hx hb dL_law_595 rfl (lv_at hl 0 rfl) ?_
  refine lv_iload hx hb dL_law_596 (lv_at hl 4 rfl) ?_
  refine lv_iconst (v := 1) hx hb dL_law_598 (by decide) ?_
  refine lv_iadd hx hb dL_law_599 ?_
  refine top_i (show (nI (4 * cN)) + 1 = nI ((4 * cN) + 1) from nI_add (4 * cN) 1) ?_
  refine k_scr hx hb hX hbl hbA hS (j := ((4 * cN) + 1)) (by omega) hL hp0 dL_law_600 ?_
  refine lv_aload_n hx hb dL_law_601 rfl (lv_at hl 3 rfl) ?_
  refine k_callSWi (As := [.ref (y 0), .int p0, .ref ob]) (rest := []) C hml (c_L_restart hC hE hEx hls hCB hH hG hc hob hon) (vx_cwSW 3 hts gL_law_L_restart rfl rfl rfl (by decide +kernel) ⟨by decide, by decide⟩) hW hS hB rfl hl.1 rfl (Nat.le_of_ble_eq_true rfl) dL_law_602 ⟨show _ ≤ 601024 by omega, show _ ≤ 7293034 by omega⟩ (fun r5 S1 H locs q8 hW hS => ?_)
  have hM1 := hI.mr q8.1
  refine lv_istore (lv' := [(5, .int r5), (0, .ref b), (1, .ref (y 0)), (2, .ref a), (3, .ref ob), (4, .int (nI (4 * cN)))]) hx hb dL_law_605 hl (by decide) rfl (fun ls hl => ?_)
  refine lv_aload_n hx hb dL_law_607 rfl (lv_at hl 3 rfl) ?_
  refine lv_aload_n hx hb dL_law_608 rfl (lv_at hl 1 rfl) ?_
  refine lv_iload hx hb dL_law_609 (lv_at hl 5 rfl) ?_
  refine lv_iconst (v := 1) hx hb dL_law_611 (by decide) ?_
  refine lv_iadd hx hb dL_law_612 ?_
  refine top_i (show (nI (4 * cN)) + 1 = nI ((4 * cN) + 1) from nI_add (4 * cN) 1) ?_
  refine k_scr hx hb hX hbl hbA hS (j := ((4 * cN) + 1)) (by omega) hL hp0 dL_law_613 ?_
  refine k_callVi (As := [.int p0]) (rest := []) C hml (c_X11_restart hM1 hG.a.nl hG.a.n3) (cwV 1 hts gL_law_X11_restart rfl rfl rfl (by decide +kernel) ⟨by decide, by decide⟩) hW hS hB hM1.1.1.1 (pAt_11 hM1.1.1.2) rfl rfl hl.1 rfl (Nat.le_of_ble_eq_true rfl) dL_law_614 ⟨show _ ≤ 601024 by omega, show _ ≤ 7293034 by omega⟩ (fun r6 S3 H locs q9 hW hS => ?_)
  obtain ⟨hO, hM3, e6⟩ := q9
  have hob3 := hI.ob1 q8.1 hO
  have eJ : r5 = 0 → aJ S3 ob 0 = r6.toInt64 := fun z => ((hI.out hO).trans (q8.2.2 z)).trans (congrArg Int32.toInt64 e6.symm)
  refine lv_istore (lv' := [(6, .int r6), (5, .int r5), (0, .ref b), (1, .ref (y 0)), (2, .ref a), (3, .ref ob), (4, .int (nI (4 * cN)))]) hx hb dL_law_617 hl (by decide) rfl (fun ls hl => ?_)
  refine lv_aload_n hx hb dL_law_619 rfl (lv_at hl 4 rfl) ?_
  refine k_callVi (As := []) (rest := []) C hml (c_X11_thrown hM3) (cwV 0 hts gL_law_X11_thrown rfl rfl rfl (by decide +kernel) ⟨by decide, by decide⟩) hW hS hB hM3.1.1.1 (pAt_11 hM3.1.1.2) rfl rfl hl.1 rfl (Nat.le_of_ble_eq_true rfl) dL_law_620 ⟨show _ ≤ 601024 by omega, show _ ≤ 7293034 by omega⟩ (fun r7 S4 H locs q9 hW hS => ?_)
  obtain ⟨eS, e7⟩ := q9
  rw [eS] at hW
  refine lv_iload hx hb dL_law_623 (lv_at hl 1 rfl) ?_
  refine lv_icmp_eq (tgt := 630) hx hb dL_law_625 (by decide) (fun c_625 => ?_) (fun c_625 => absurd (e7.trans (q8.2.1).symm) c_625)
  refine lv_iload hx hb dL_law_630 (lv_at hl 1 rfl) ?_
  refine lv_if_ne (tgt := 647) hx hb dL_law_632 (by decide) (fun c_632 => ?_) (fun c_632 => ?_)
  · refine lv_goto (tgt := 935) hx hb dL_law_647 (by decide) ?_
    exact W.widen (by omega) (by omega) (hgo _ _ _ _ (hI.next q8.1 hO hM3 (nx_restart hG)) hW hS (lv_sub hl [2, 3, 4, 5, 6] rfl))
  · refine lv_aload_n hx hb dL_law_635 rfl (lv_at hl 5 rfl) ?_
    refine lv_iconst (v := 0) hx hb dL_law_636 (by decide) ?_
    refine a_Jload C hW (j := 0) hob3.1 hob3.2 rfl (by omega) (by omega) dL_law_637 ?_
    refine lv_iload hx hb dL_law_638 (lv_at hl 0 rfl) ?_
    refine lv_i2l (v := r6.toInt64) hx hb dL_law_640 rfl ?_
    refine lc_eq (tgt := 647) hx hb dL_law_641 dL_law_642 (by decide) (fun c_642 => ?_) (fun c_642 => absurd (eJ c_632) c_642)
    refine lv_goto (tgt := 935) hx hb dL_law_647 (by decide) ?_
    exact W.widen (by omega) (by omega) (hgo _ _ _ _ (hI.next q8.1 hO hM3 (nx_restart hG)) hW hS (lv_sub hl [2, 3, 4, 5, 6] rfl))
set_option maxRecDepth 100000 in
set_option maxHeartbeats 1000000 in
theorem law_root {p : Program} {l : Launch} {e : Env} {s : State} {m : MethodId} {below : List Frame} {meth : Method} {c : Code} {D : va_G} {cy : Nat → ClassId} {B : Nat} {s0 : State} {S : PS} {H : Heap} {locs : List Loc} {cells slots : Nat} {Q : State → Prop} {ls : Array Slot} {b L : Nat} {xs : Nat → Int32} {y t : Nat → Nat} {dE mi a ob : Nat} {g : MS} {n : Nat} {f : Nat → Nat} {cN : Nat} {cs : CS} (C : Cx p s m #[Value.ref b] c cL_law wsL_law RL D cy B s0) (hml : c.maxLocals = 7) (hE : EnvC dE mi B s0) (hEx : EnvX B s0) (hls : l.stackTraces = false) (hX : va_X b L xs s s.heap) (hbl : b < s.heap.size) (hbA : ¬ Aw B b) (hB : B ≤ s.heap.size) (hL : L ≤ 2048) (hi : 4 * cN + 3 < L) (hI : LI S y t dE a ob g n f cN cs) (hW : PW D cy B S H) (hS : va_S (Aw B) s.heap H locs) (hl : lv_has ls 7 [(0, .ref b), (1, .ref (y 0)), (2, .ref a), (3, .ref ob), (4, .int (nI (4 * cN)))]) (hf : cells + 308 ≤ 601024 ∧ slots + 2464 ≤ 7293034) (hgo : ∀ S1 H1 locs1 ls1, LJ S1 (y 0) dE a ob (cN + 1) → PW D cy B S1 H1 → va_S (Aw B) s.heap H1 locs1 → lv_has ls1 7 [(0, .ref b), (1, .ref (y 0)), (2, .ref a), (3, .ref ob), (4, .int (nI (4 * cN)))] → W p l e room_1 s m #[Value.ref b] below meth c H1 locs1 (cells + 308) (slots + 2464) Q (F0 m 935 ls1 [])) : W p l e room_1 s m #[Value.ref b] below meth c H locs cells slots Q (F0 m 650 ls []) := by
  obtain ⟨hx, hb, hts, hown, hK, hEn⟩ := id C
  obtain ⟨⟨hC, hCB, hH⟩, hM, hG, h7, ho, hob, hon⟩ := id hI
  obtain ⟨hf1, hf2⟩ := id hf
  have hc : cN < 512 := by omega
  obtain ⟨p0, hp0⟩ : ∃ v, xs (4 * cN + 1) = v := ⟨_, rfl⟩
  obtain ⟨p1, hp1⟩ : ∃ v, xs (4 * cN + 2) = v := ⟨_, rfl⟩
  refine lv_aload_n hx hb dL_law_650 rfl (lv_at hl 1 rfl) ?_
  refine lv_aload_n hx hb dL_law_651 rfl (lv_at hl 0 rfl) ?_
  refine lv_iload hx hb dL_law_652 (lv_at hl 4 rfl) ?_
  refine lv_iconst (v := 1) hx hb dL_law_654 (by decide) ?_
  refine lv_iadd hx hb dL_law_655 ?_
  refine top_i (show (nI (4 * cN)) + 1 = nI ((4 * cN) + 1) from nI_add (4 * cN) 1) ?_
  refine k_scr hx hb hX hbl hbA hS (j := ((4 * cN) + 1)) (by omega) hL hp0 dL_law_656 ?_
  refine lv_aload_n hx hb dL_law_657 rfl (lv_at hl 0 rfl) ?_
  refine lv_iload hx hb dL_law_658 (lv_at hl 4 rfl) ?_
  refine lv_iconst (v := 2) hx hb dL_law_660 (by decide) ?_
  refine lv_iadd hx hb dL_law_661 ?_
  refine top_i (show (nI (4 * cN)) + 2 = nI ((4 * cN) + 2) from nI_add (4 * cN) 2) ?_
  refine k_scr hx hb hX hbl hbA hS (j := ((4 * cN) + 2)) (by omega) hL hp1 dL_law_662 ?_
  refine lv_aload_n hx hb dL_law_663 rfl (lv_at hl 3 rfl) ?_
  refine k_callSWi (As := [.ref (y 0), .int p0, .int p1, .ref ob]) (rest := []) C hml (c_L_root hC hE hEx hls hCB hH hG hc hob hon) (vx_cwSW 4 hts gL_law_L_root rfl rfl rfl (by decide +kernel) ⟨by decide, by decide⟩) hW hS hB rfl hl.1 rfl (Nat.le_of_ble_eq_true rfl) dL_law_664 ⟨show _ ≤ 601024 by omega, show _ ≤ 7293034 by omega⟩ (fun r5 S1 H locs q8 hW hS => ?_)
  have hM1 := hI.mr q8.1
  refine lv_istore (lv' := [(5, .int r5), (0, .ref b), (1, .ref (y 0)), (2, .ref a), (3, .ref ob), (4, .int (nI (4 * cN)))]) hx hb dL_law_667 hl (by decide) rfl (fun ls hl => ?_)
  refine lv_aload_n hx hb dL_law_669 rfl (lv_at hl 3 rfl) ?_
  refine lv_aload_n hx hb dL_law_670 rfl (lv_at hl 1 rfl) ?_
  refine lv_iload hx hb dL_law_671 (lv_at hl 5 rfl) ?_
  refine lv_iconst (v := 1) hx hb dL_law_673 (by decide) ?_
  refine lv_iadd hx hb dL_law_674 ?_
  refine top_i (show (nI (4 * cN)) + 1 = nI ((4 * cN) + 1) from nI_add (4 * cN) 1) ?_
  refine k_scr hx hb hX hbl hbA hS (j := ((4 * cN) + 1)) (by omega) hL hp0 dL_law_675 ?_
  refine lv_aload_n hx hb dL_law_676 rfl (lv_at hl 1 rfl) ?_
  refine lv_iload hx hb dL_law_677 (lv_at hl 5 rfl) ?_
  refine lv_iconst (v := 2) hx hb dL_law_679 (by decide) ?_
  refine lv_iadd hx hb dL_law_680 ?_
  refine top_i (show (nI (4 * cN)) + 2 = nI ((4 * cN) + 2) from nI_add (4 * cN) 2) ?_
  refine k_scr hx hb hX hbl hbA hS (j := ((4 * cN) + 2)) (by omega) hL hp1 dL_law_681 ?_
  refine k_callVi (As := [.int p0, .int p1]) (rest := []) C hml (c_X11_root hM1 hG.a.nl hG.a.n3) (cwV 2 hts gL_law_X11_root rfl rfl rfl (by decide +kernel) ⟨by decide, by decide⟩) hW hS hB hM1.1.1.1 (pAt_11 hM1.1.1.2) rfl rfl hl.1 rfl (Nat.le_of_ble_eq_true rfl) dL_law_682 ⟨show _ ≤ 601024 by omega, show _ ≤ 7293034 by omega⟩ (fun r6 S3 H locs q9 hW hS => ?_)
  obtain ⟨hO, hM3, e6⟩ := q9
  have hob3 := hI.ob1 q8.1 hO
  have eJ : r5 = 0 → aJ S3 ob 0 = r6.toInt64 := fun z => ((hI.out hO).trans (q8.2.2 z)).trans (congrArg Int32.toInt64 e6.symm)
  refine lv_istore (lv' := [(6, .int r6), (5, .int r5), (0, .ref b), (1, .ref (y 0)), (2, .ref a), (3, .ref ob), (4, .int (nI (4 * cN)))]) hx hb dL_law_685 hl (by decide) rfl (fun ls hl => ?_)
  refine lv_aload_n hx hb dL_law_687 rfl (lv_at hl 4 rfl) ?_
  refine k_callVi (As := []) (rest := []) C hml (c_X11_thrown hM3) (cwV 0 hts gL_law_X11_thrown rfl rfl rfl (by decide +kernel) ⟨by decide, by decide⟩) hW hS hB hM3.1.1.1 (pAt_11 hM3.1.1.2) rfl rfl hl.1 rfl (Nat.le_of_ble_eq_true rfl) dL_law_688 ⟨show _ ≤ 601024 by omega, show _ ≤ 7293034 by omega⟩ (fun r7 S4 H locs q9 hW hS => ?_)
  obtain ⟨eS, e7⟩ := q9
  rw [eS] at hW
  refine lv_iload hx hb dL_law_691 (lv_at hl 1 rfl) ?_
  refine lv_icmp_eq (tgt := 698) hx hb dL_law_693 (by decide) (fun c_693 => ?_) (fun c_693 => absurd (e7.trans (q8.2.1).symm) c_693)
  refine lv_iload hx hb dL_law_698 (lv_at hl 1 rfl) ?_
  refine lv_if_ne (tgt := 715) hx hb dL_law_700 (by decide) (fun c_700 => ?_) (fun c_700 => ?_)
  · refine lv_goto (tgt := 935) hx hb dL_law_715 (by decide) ?_
    exact W.widen (by omega) (by omega) (hgo _ _ _ _ (hI.next q8.1 hO hM3 (nx_root hG)) hW hS (lv_sub hl [2, 3, 4, 5, 6] rfl))
  · refine lv_aload_n hx hb dL_law_703 rfl (lv_at hl 5 rfl) ?_
    refine lv_iconst (v := 0) hx hb dL_law_704 (by decide) ?_
    refine a_Jload C hW (j := 0) hob3.1 hob3.2 rfl (by omega) (by omega) dL_law_705 ?_
    refine lv_iload hx hb dL_law_706 (lv_at hl 0 rfl) ?_
    refine lv_i2l (v := r6.toInt64) hx hb dL_law_708 rfl ?_
    refine lc_eq (tgt := 715) hx hb dL_law_709 dL_law_710 (by decide) (fun c_710 => ?_) (fun c_710 => absurd (eJ c_700) c_710)
    refine lv_goto (tgt := 935) hx hb dL_law_715 (by decide) ?_
    exact W.widen (by omega) (by omega) (hgo _ _ _ _ (hI.next q8.1 hO hM3 (nx_root hG)) hW hS (lv_sub hl [2, 3, 4, 5, 6] rfl))
set_option maxRecDepth 100000 in
set_option maxHeartbeats 1000000 in
theorem law_gate {p : Program} {l : Launch} {e : Env} {s : State} {m : MethodId} {below : List Frame} {meth : Method} {c : Code} {D : va_G} {cy : Nat → ClassId} {B : Nat} {s0 : State} {S : PS} {H : Heap} {locs : List Loc} {cells slots : Nat} {Q : State → Prop} {ls : Array Slot} {b L : Nat} {xs : Nat → Int32} {y t : Nat → Nat} {dE mi a ob : Nat} {g : MS} {n : Nat} {f : Nat → Nat} {cN : Nat} {cs : CS} (C : Cx p s m #[Value.ref b] c cL_law wsL_law RL D cy B s0) (hml : c.maxLocals = 7) (hE : EnvC dE mi B s0) (hEx : EnvX B s0) (hls : l.stackTraces = false) (hX : va_X b L xs s s.heap) (hbl : b < s.heap.size) (hbA : ¬ Aw B b) (hB : B ≤ s.heap.size) (hL : L ≤ 2048) (hi : 4 * cN + 3 < L) (hI : LI S y t dE a ob g n f cN cs) (hW : PW D cy B S H) (hS : va_S (Aw B) s.heap H locs) (hl : lv_has ls 7 [(0, .ref b), (1, .ref (y 0)), (2, .ref a), (3, .ref ob), (4, .int (nI (4 * cN)))]) (hf : cells + 308 ≤ 601024 ∧ slots + 2464 ≤ 7293034) (hgo : ∀ S1 H1 locs1 ls1, LJ S1 (y 0) dE a ob (cN + 1) → PW D cy B S1 H1 → va_S (Aw B) s.heap H1 locs1 → lv_has ls1 7 [(0, .ref b), (1, .ref (y 0)), (2, .ref a), (3, .ref ob), (4, .int (nI (4 * cN)))] → W p l e room_1 s m #[Value.ref b] below meth c H1 locs1 (cells + 308) (slots + 2464) Q (F0 m 935 ls1 [])) : W p l e room_1 s m #[Value.ref b] below meth c H locs cells slots Q (F0 m 718 ls []) := by
  obtain ⟨hx, hb, hts, hown, hK, hEn⟩ := id C
  obtain ⟨⟨hC, hCB, hH⟩, hM, hG, h7, ho, hob, hon⟩ := id hI
  obtain ⟨hf1, hf2⟩ := id hf
  have hc : cN < 512 := by omega
  obtain ⟨p0, hp0⟩ : ∃ v, xs (4 * cN + 1) = v := ⟨_, rfl⟩
  obtain ⟨p1, hp1⟩ : ∃ v, xs (4 * cN + 2) = v := ⟨_, rfl⟩
  obtain ⟨p2, hp2⟩ : ∃ v, xs (4 * cN + 3) = v := ⟨_, rfl⟩
  refine lv_aload_n hx hb dL_law_718 rfl (lv_at hl 1 rfl) ?_
  refine lv_aload_n hx hb dL_law_719 rfl (lv_at hl 0 rfl) ?_
  refine lv_iload hx hb dL_law_720 (lv_at hl 4 rfl) ?_
  refine lv_iconst (v := 1) hx hb dL_law_722 (by decide) ?_
  refine lv_iadd hx hb dL_law_723 ?_
  refine top_i (show (nI (4 * cN)) + 1 = nI ((4 * cN) + 1) from nI_add (4 * cN) 1) ?_
  refine k_scr hx hb hX hbl hbA hS (j := ((4 * cN) + 1)) (by omega) hL hp0 dL_law_724 ?_
  refine lv_aload_n hx hb dL_law_725 rfl (lv_at hl 0 rfl) ?_
  refine lv_iload hx hb dL_law_726 (lv_at hl 4 rfl) ?_
  refine lv_iconst (v := 2) hx hb dL_law_728 (by decide) ?_
  refine lv_iadd hx hb dL_law_729 ?_
  refine top_i (show (nI (4 * cN)) + 2 = nI ((4 * cN) + 2) from nI_add (4 * cN) 2) ?_
  refine k_scr hx hb hX hbl hbA hS (j := ((4 * cN) + 2)) (by omega) hL hp1 dL_law_730 ?_
  refine lv_aload_n hx hb dL_law_731 rfl (lv_at hl 0 rfl) ?_
  refine lv_iload hx hb dL_law_732 (lv_at hl 4 rfl) ?_
  refine lv_iconst (v := 3) hx hb dL_law_734 (by decide) ?_
  refine lv_iadd hx hb dL_law_735 ?_
  refine top_i (show (nI (4 * cN)) + 3 = nI ((4 * cN) + 3) from nI_add (4 * cN) 3) ?_
  refine k_scr hx hb hX hbl hbA hS (j := ((4 * cN) + 3)) (by omega) hL hp2 dL_law_736 ?_
  refine lv_aload_n hx hb dL_law_737 rfl (lv_at hl 3 rfl) ?_
  refine k_callSWi (As := [.ref (y 0), .int p0, .int p1, .int p2, .ref ob]) (rest := []) C hml (c_L_gate hC hE hEx hls hCB hH hG hc hob hon) (vx_cwSW 5 hts gL_law_L_gate rfl rfl rfl (by decide +kernel) ⟨by decide, by decide⟩) hW hS hB rfl hl.1 rfl (Nat.le_of_ble_eq_true rfl) dL_law_738 ⟨show _ ≤ 601024 by omega, show _ ≤ 7293034 by omega⟩ (fun r5 S1 H locs q8 hW hS => ?_)
  have hM1 := hI.mr q8.1
  refine lv_istore (lv' := [(5, .int r5), (0, .ref b), (1, .ref (y 0)), (2, .ref a), (3, .ref ob), (4, .int (nI (4 * cN)))]) hx hb dL_law_741 hl (by decide) rfl (fun ls hl => ?_)
  refine lv_aload_n hx hb dL_law_743 rfl (lv_at hl 3 rfl) ?_
  refine lv_aload_n hx hb dL_law_744 rfl (lv_at hl 1 rfl) ?_
  refine lv_iload hx hb dL_law_745 (lv_at hl 5 rfl) ?_
  refine lv_iconst (v := 1) hx hb dL_law_747 (by decide) ?_
  refine lv_iadd hx hb dL_law_748 ?_
  refine top_i (show (nI (4 * cN)) + 1 = nI ((4 * cN) + 1) from nI_add (4 * cN) 1) ?_
  refine k_scr hx hb hX hbl hbA hS (j := ((4 * cN) + 1)) (by omega) hL hp0 dL_law_749 ?_
  refine lv_aload_n hx hb dL_law_750 rfl (lv_at hl 1 rfl) ?_
  refine lv_iload hx hb dL_law_751 (lv_at hl 5 rfl) ?_
  refine lv_iconst (v := 2) hx hb dL_law_753 (by decide) ?_
  refine lv_iadd hx hb dL_law_754 ?_
  refine top_i (show (nI (4 * cN)) + 2 = nI ((4 * cN) + 2) from nI_add (4 * cN) 2) ?_
  refine k_scr hx hb hX hbl hbA hS (j := ((4 * cN) + 2)) (by omega) hL hp1 dL_law_755 ?_
  refine lv_aload_n hx hb dL_law_756 rfl (lv_at hl 1 rfl) ?_
  refine lv_iload hx hb dL_law_757 (lv_at hl 5 rfl) ?_
  refine lv_iconst (v := 3) hx hb dL_law_759 (by decide) ?_
  refine lv_iadd hx hb dL_law_760 ?_
  refine top_i (show (nI (4 * cN)) + 3 = nI ((4 * cN) + 3) from nI_add (4 * cN) 3) ?_
  refine k_scr hx hb hX hbl hbA hS (j := ((4 * cN) + 3)) (by omega) hL hp2 dL_law_761 ?_
  refine k_callVi (As := [.int p0, .int p1, .int p2]) (rest := []) C hml (c_X11_gate hM1 hG.a.nl hG.a.n3) (cwV 3 hts gL_law_X11_gate rfl rfl rfl (by decide +kernel) ⟨by decide, by decide⟩) hW hS hB hM1.1.1.1 (pAt_11 hM1.1.1.2) rfl rfl hl.1 rfl (Nat.le_of_ble_eq_true rfl) dL_law_762 ⟨show _ ≤ 601024 by omega, show _ ≤ 7293034 by omega⟩ (fun r6 S3 H locs q9 hW hS => ?_)
  obtain ⟨hO, hM3, e6⟩ := q9
  have hob3 := hI.ob1 q8.1 hO
  have eJ : r5 = 0 → aJ S3 ob 0 = r6.toInt64 := fun z => ((hI.out hO).trans (q8.2.2 z)).trans (congrArg Int32.toInt64 e6.symm)
  refine lv_istore (lv' := [(6, .int r6), (5, .int r5), (0, .ref b), (1, .ref (y 0)), (2, .ref a), (3, .ref ob), (4, .int (nI (4 * cN)))]) hx hb dL_law_765 hl (by decide) rfl (fun ls hl => ?_)
  refine lv_aload_n hx hb dL_law_767 rfl (lv_at hl 4 rfl) ?_
  refine k_callVi (As := []) (rest := []) C hml (c_X11_thrown hM3) (cwV 0 hts gL_law_X11_thrown rfl rfl rfl (by decide +kernel) ⟨by decide, by decide⟩) hW hS hB hM3.1.1.1 (pAt_11 hM3.1.1.2) rfl rfl hl.1 rfl (Nat.le_of_ble_eq_true rfl) dL_law_768 ⟨show _ ≤ 601024 by omega, show _ ≤ 7293034 by omega⟩ (fun r7 S4 H locs q9 hW hS => ?_)
  obtain ⟨eS, e7⟩ := q9
  rw [eS] at hW
  refine lv_iload hx hb dL_law_771 (lv_at hl 1 rfl) ?_
  refine lv_icmp_eq (tgt := 778) hx hb dL_law_773 (by decide) (fun c_773 => ?_) (fun c_773 => absurd (e7.trans (q8.2.1).symm) c_773)
  refine lv_iload hx hb dL_law_778 (lv_at hl 1 rfl) ?_
  refine lv_if_ne (tgt := 795) hx hb dL_law_780 (by decide) (fun c_780 => ?_) (fun c_780 => ?_)
  · refine lv_goto (tgt := 935) hx hb dL_law_795 (by decide) ?_
    exact W.widen (by omega) (by omega) (hgo _ _ _ _ (hI.next q8.1 hO hM3 (nx_gate hG)) hW hS (lv_sub hl [2, 3, 4, 5, 6] rfl))
  · refine lv_aload_n hx hb dL_law_783 rfl (lv_at hl 5 rfl) ?_
    refine lv_iconst (v := 0) hx hb dL_law_784 (by decide) ?_
    refine a_Jload C hW (j := 0) hob3.1 hob3.2 rfl (by omega) (by omega) dL_law_785 ?_
    refine lv_iload hx hb dL_law_786 (lv_at hl 0 rfl) ?_
    refine lv_i2l (v := r6.toInt64) hx hb dL_law_788 rfl ?_
    refine lc_eq (tgt := 795) hx hb dL_law_789 dL_law_790 (by decide) (fun c_790 => ?_) (fun c_790 => absurd (eJ c_780) c_790)
    refine lv_goto (tgt := 935) hx hb dL_law_795 (by decide) ?_
    exact W.widen (by omega) (by omega) (hgo _ _ _ _ (hI.next q8.1 hO hM3 (nx_gate hG)) hW hS (lv_sub hl [2, 3, 4, 5, 6] rfl))
set_option maxRecDepth 100000 in
set_option maxHeartbeats 1000000 in
theorem law_message {p : Program} {l : Launch} {e : Env} {s : State} {m : MethodId} {below : List Frame} {meth : Method} {c : Code} {D : va_G} {cy : Nat → ClassId} {B : Nat} {s0 : State} {S : PS} {H : Heap} {locs : List Loc} {cells slots : Nat} {Q : State → Prop} {ls : Array Slot} {b L : Nat} {xs : Nat → Int32} {y t : Nat → Nat} {dE mi a ob : Nat} {g : MS} {n : Nat} {f : Nat → Nat} {cN : Nat} {cs : CS} (C : Cx p s m #[Value.ref b] c cL_law wsL_law RL D cy B s0) (hml : c.maxLocals = 7) (hE : EnvC dE mi B s0) (hEx : EnvX B s0) (hls : l.stackTraces = false) (hX : va_X b L xs s s.heap) (hbl : b < s.heap.size) (hbA : ¬ Aw B b) (hB : B ≤ s.heap.size) (hL : L ≤ 2048) (hi : 4 * cN + 3 < L) (hI : LI S y t dE a ob g n f cN cs) (hW : PW D cy B S H) (hS : va_S (Aw B) s.heap H locs) (hl : lv_has ls 7 [(0, .ref b), (1, .ref (y 0)), (2, .ref a), (3, .ref ob), (4, .int (nI (4 * cN)))]) (hf : cells + 308 ≤ 601024 ∧ slots + 2464 ≤ 7293034) (hgo : ∀ S1 H1 locs1 ls1, LJ S1 (y 0) dE a ob (cN + 1) → PW D cy B S1 H1 → va_S (Aw B) s.heap H1 locs1 → lv_has ls1 7 [(0, .ref b), (1, .ref (y 0)), (2, .ref a), (3, .ref ob), (4, .int (nI (4 * cN)))] → W p l e room_1 s m #[Value.ref b] below meth c H1 locs1 (cells + 308) (slots + 2464) Q (F0 m 935 ls1 [])) : W p l e room_1 s m #[Value.ref b] below meth c H locs cells slots Q (F0 m 798 ls []) := by
  obtain ⟨hx, hb, hts, hown, hK, hEn⟩ := id C
  obtain ⟨⟨hC, hCB, hH⟩, hM, hG, h7, ho, hob, hon⟩ := id hI
  obtain ⟨hf1, hf2⟩ := id hf
  have hc : cN < 512 := by omega
  obtain ⟨p0, hp0⟩ : ∃ v, xs (4 * cN + 1) = v := ⟨_, rfl⟩
  obtain ⟨p1, hp1⟩ : ∃ v, xs (4 * cN + 2) = v := ⟨_, rfl⟩
  refine lv_aload_n hx hb dL_law_798 rfl (lv_at hl 1 rfl) ?_
  refine lv_aload_n hx hb dL_law_799 rfl (lv_at hl 0 rfl) ?_
  refine lv_iload hx hb dL_law_800 (lv_at hl 4 rfl) ?_
  refine lv_iconst (v := 1) hx hb dL_law_802 (by decide) ?_
  refine lv_iadd hx hb dL_law_803 ?_
  refine top_i (show (nI (4 * cN)) + 1 = nI ((4 * cN) + 1) from nI_add (4 * cN) 1) ?_
  refine k_scr hx hb hX hbl hbA hS (j := ((4 * cN) + 1)) (by omega) hL hp0 dL_law_804 ?_
  refine lv_aload_n hx hb dL_law_805 rfl (lv_at hl 0 rfl) ?_
  refine lv_iload hx hb dL_law_806 (lv_at hl 4 rfl) ?_
  refine lv_iconst (v := 2) hx hb dL_law_808 (by decide) ?_
  refine lv_iadd hx hb dL_law_809 ?_
  refine top_i (show (nI (4 * cN)) + 2 = nI ((4 * cN) + 2) from nI_add (4 * cN) 2) ?_
  refine k_scr hx hb hX hbl hbA hS (j := ((4 * cN) + 2)) (by omega) hL hp1 dL_law_810 ?_
  refine lv_aload_n hx hb dL_law_811 rfl (lv_at hl 3 rfl) ?_
  refine k_callSWi (As := [.ref (y 0), .int p0, .int p1, .ref ob]) (rest := []) C hml (c_L_message hC hE hEx hls hCB hH hG hc hob hon) (vx_cwSW 4 hts gL_law_L_message rfl rfl rfl (by decide +kernel) ⟨by decide, by decide⟩) hW hS hB rfl hl.1 rfl (Nat.le_of_ble_eq_true rfl) dL_law_812 ⟨show _ ≤ 601024 by omega, show _ ≤ 7293034 by omega⟩ (fun r5 S1 H locs q8 hW hS => ?_)
  have hM1 := hI.mr q8.1
  refine lv_istore (lv' := [(5, .int r5), (0, .ref b), (1, .ref (y 0)), (2, .ref a), (3, .ref ob), (4, .int (nI (4 * cN)))]) hx hb dL_law_815 hl (by decide) rfl (fun ls hl => ?_)
  refine lv_aload_n hx hb dL_law_817 rfl (lv_at hl 3 rfl) ?_
  refine lv_aload_n hx hb dL_law_818 rfl (lv_at hl 1 rfl) ?_
  refine lv_iload hx hb dL_law_819 (lv_at hl 5 rfl) ?_
  refine lv_iconst (v := 1) hx hb dL_law_821 (by decide) ?_
  refine lv_iadd hx hb dL_law_822 ?_
  refine top_i (show (nI (4 * cN)) + 1 = nI ((4 * cN) + 1) from nI_add (4 * cN) 1) ?_
  refine k_scr hx hb hX hbl hbA hS (j := ((4 * cN) + 1)) (by omega) hL hp0 dL_law_823 ?_
  refine lv_aload_n hx hb dL_law_824 rfl (lv_at hl 1 rfl) ?_
  refine lv_iload hx hb dL_law_825 (lv_at hl 5 rfl) ?_
  refine lv_iconst (v := 2) hx hb dL_law_827 (by decide) ?_
  refine lv_iadd hx hb dL_law_828 ?_
  refine top_i (show (nI (4 * cN)) + 2 = nI ((4 * cN) + 2) from nI_add (4 * cN) 2) ?_
  refine k_scr hx hb hX hbl hbA hS (j := ((4 * cN) + 2)) (by omega) hL hp1 dL_law_829 ?_
  refine k_callVi (As := [.int p0, .int p1]) (rest := []) C hml (c_X11_message hM1 hG.b.mo) (cwV 2 hts gL_law_X11_message rfl rfl rfl (by decide +kernel) ⟨by decide, by decide⟩) hW hS hB hM1.1.1.1 (pAt_11 hM1.1.1.2) rfl rfl hl.1 rfl (Nat.le_of_ble_eq_true rfl) dL_law_830 ⟨show _ ≤ 601024 by omega, show _ ≤ 7293034 by omega⟩ (fun r6 S3 H locs q9 hW hS => ?_)
  obtain ⟨hO, hM3, e6⟩ := q9
  have hob3 := hI.ob1 q8.1 hO
  have eJ : r5 = 0 → aJ S3 ob 0 = r6.toInt64 := fun z => ((hI.out hO).trans (q8.2.2 z)).trans (congrArg Int32.toInt64 e6.symm)
  refine lv_istore (lv' := [(6, .int r6), (5, .int r5), (0, .ref b), (1, .ref (y 0)), (2, .ref a), (3, .ref ob), (4, .int (nI (4 * cN)))]) hx hb dL_law_833 hl (by decide) rfl (fun ls hl => ?_)
  refine lv_aload_n hx hb dL_law_835 rfl (lv_at hl 4 rfl) ?_
  refine k_callVi (As := []) (rest := []) C hml (c_X11_thrown hM3) (cwV 0 hts gL_law_X11_thrown rfl rfl rfl (by decide +kernel) ⟨by decide, by decide⟩) hW hS hB hM3.1.1.1 (pAt_11 hM3.1.1.2) rfl rfl hl.1 rfl (Nat.le_of_ble_eq_true rfl) dL_law_836 ⟨show _ ≤ 601024 by omega, show _ ≤ 7293034 by omega⟩ (fun r7 S4 H locs q9 hW hS => ?_)
  obtain ⟨eS, e7⟩ := q9
  rw [eS] at hW
  refine lv_iload hx hb dL_law_839 (lv_at hl 1 rfl) ?_
  refine lv_icmp_eq (tgt := 846) hx hb dL_law_841 (by decide) (fun c_841 => ?_) (fun c_841 => absurd (e7.trans (q8.2.1).symm) c_841)
  refine lv_iload hx hb dL_law_846 (lv_at hl 1 rfl) ?_
  refine lv_if_ne (tgt := 863) hx hb dL_law_848 (by decide) (fun c_848 => ?_) (fun c_848 => ?_)
  · refine lv_goto (tgt := 935) hx hb dL_law_863 (by decide) ?_
    exact W.widen (by omega) (by omega) (hgo _ _ _ _ (hI.next q8.1 hO hM3 (nx_message hG)) hW hS (lv_sub hl [2, 3, 4, 5, 6] rfl))
  · refine lv_aload_n hx hb dL_law_851 rfl (lv_at hl 5 rfl) ?_
    refine lv_iconst (v := 0) hx hb dL_law_852 (by decide) ?_
    refine a_Jload C hW (j := 0) hob3.1 hob3.2 rfl (by omega) (by omega) dL_law_853 ?_
    refine lv_iload hx hb dL_law_854 (lv_at hl 0 rfl) ?_
    refine lv_i2l (v := r6.toInt64) hx hb dL_law_856 rfl ?_
    refine lc_eq (tgt := 863) hx hb dL_law_857 dL_law_858 (by decide) (fun c_858 => ?_) (fun c_858 => absurd (eJ c_848) c_858)
    refine lv_goto (tgt := 935) hx hb dL_law_863 (by decide) ?_
    exact W.widen (by omega) (by omega) (hgo _ _ _ _ (hI.next q8.1 hO hM3 (nx_message hG)) hW hS (lv_sub hl [2, 3, 4, 5, 6] rfl))
set_option maxRecDepth 100000 in
set_option maxHeartbeats 1000000 in
theorem law_sent {p : Program} {l : Launch} {e : Env} {s : State} {m : MethodId} {below : List Frame} {meth : Method} {c : Code} {D : va_G} {cy : Nat → ClassId} {B : Nat} {s0 : State} {S : PS} {H : Heap} {locs : List Loc} {cells slots : Nat} {Q : State → Prop} {ls : Array Slot} {b L : Nat} {xs : Nat → Int32} {y t : Nat → Nat} {dE mi a ob : Nat} {g : MS} {n : Nat} {f : Nat → Nat} {cN : Nat} {cs : CS} (C : Cx p s m #[Value.ref b] c cL_law wsL_law RL D cy B s0) (hml : c.maxLocals = 7) (hE : EnvC dE mi B s0) (hEx : EnvX B s0) (hls : l.stackTraces = false) (hX : va_X b L xs s s.heap) (hbl : b < s.heap.size) (hbA : ¬ Aw B b) (hB : B ≤ s.heap.size) (hL : L ≤ 2048) (hi : 4 * cN + 3 < L) (hI : LI S y t dE a ob g n f cN cs) (hW : PW D cy B S H) (hS : va_S (Aw B) s.heap H locs) (hl : lv_has ls 7 [(0, .ref b), (1, .ref (y 0)), (2, .ref a), (3, .ref ob), (4, .int (nI (4 * cN)))]) (hf : cells + 308 ≤ 601024 ∧ slots + 2464 ≤ 7293034) (hgo : ∀ S1 H1 locs1 ls1, LJ S1 (y 0) dE a ob (cN + 1) → PW D cy B S1 H1 → va_S (Aw B) s.heap H1 locs1 → lv_has ls1 7 [(0, .ref b), (1, .ref (y 0)), (2, .ref a), (3, .ref ob), (4, .int (nI (4 * cN)))] → W p l e room_1 s m #[Value.ref b] below meth c H1 locs1 (cells + 308) (slots + 2464) Q (F0 m 935 ls1 [])) : W p l e room_1 s m #[Value.ref b] below meth c H locs cells slots Q (F0 m 866 ls []) := by
  obtain ⟨hx, hb, hts, hown, hK, hEn⟩ := id C
  obtain ⟨⟨hC, hCB, hH⟩, hM, hG, h7, ho, hob, hon⟩ := id hI
  obtain ⟨hf1, hf2⟩ := id hf
  have hc : cN < 512 := by omega
  refine lv_aload_n hx hb dL_law_866 rfl (lv_at hl 1 rfl) ?_
  refine k_callVi (As := []) (rest := []) C hml (c_X10_sent hC hE) (cwV 0 hts gL_law_X10_sent rfl rfl rfl (by decide +kernel) ⟨by decide, by decide⟩) hW hS hB hC.1.lay.k0.1 (pAt_10 hC.1.lay.k0.2) rfl rfl hl.1 rfl (Nat.le_of_ble_eq_true rfl) dL_law_867 ⟨show _ ≤ 601024 by omega, show _ ≤ 7293034 by omega⟩ (fun r5 S1 H locs q8 hW hS => ?_)
  obtain ⟨eS, e5⟩ := q8
  rw [eS] at hW
  have q7 : WP S S y dE ob (iF g 1100 0) n := WP.rf hon hC.f0 hCB.f0 (hH.same rfl rfl)
  have hM1 := hI.mr q7
  refine lv_aload_n hx hb dL_law_870 rfl (lv_at hl 2 rfl) ?_
  refine k_callVi (As := []) (rest := [.int r5]) C hml (c_X11_sent hM1 ) (cwV 0 hts gL_law_X11_sent rfl rfl rfl (by decide +kernel) ⟨by decide, by decide⟩) hW hS hB hM1.1.1.1 (pAt_11 hM1.1.1.2) rfl rfl hl.1 rfl (Nat.le_of_ble_eq_true rfl) dL_law_871 ⟨show _ ≤ 601024 by omega, show _ ≤ 7293034 by omega⟩ (fun r6 S3 H locs q9 hW hS => ?_)
  obtain ⟨hO, hM3, e6⟩ := q9
  refine lv_icmp_eq (tgt := 935) hx hb dL_law_874 (by decide) (fun c_874 => ?_) (fun c_874 => absurd (e5.trans e6.symm) c_874)
  exact W.widen (by omega) (by omega) (hgo _ _ _ _ (hI.next q7 hO hM3 (hG.f0.nx)) hW hS (lv_sub hl [0, 1, 2, 3, 4] rfl))
set_option maxRecDepth 100000 in
set_option maxHeartbeats 1000000 in
theorem law_clock {p : Program} {l : Launch} {e : Env} {s : State} {m : MethodId} {below : List Frame} {meth : Method} {c : Code} {D : va_G} {cy : Nat → ClassId} {B : Nat} {s0 : State} {S : PS} {H : Heap} {locs : List Loc} {cells slots : Nat} {Q : State → Prop} {ls : Array Slot} {b L : Nat} {xs : Nat → Int32} {y t : Nat → Nat} {dE mi a ob : Nat} {g : MS} {n : Nat} {f : Nat → Nat} {cN : Nat} {cs : CS} (C : Cx p s m #[Value.ref b] c cL_law wsL_law RL D cy B s0) (hml : c.maxLocals = 7) (hE : EnvC dE mi B s0) (hEx : EnvX B s0) (hls : l.stackTraces = false) (hX : va_X b L xs s s.heap) (hbl : b < s.heap.size) (hbA : ¬ Aw B b) (hB : B ≤ s.heap.size) (hL : L ≤ 2048) (hi : 4 * cN + 3 < L) (hI : LI S y t dE a ob g n f cN cs) (hW : PW D cy B S H) (hS : va_S (Aw B) s.heap H locs) (hl : lv_has ls 7 [(0, .ref b), (1, .ref (y 0)), (2, .ref a), (3, .ref ob), (4, .int (nI (4 * cN)))]) (hf : cells + 308 ≤ 601024 ∧ slots + 2464 ≤ 7293034) (hgo : ∀ S1 H1 locs1 ls1, LJ S1 (y 0) dE a ob (cN + 1) → PW D cy B S1 H1 → va_S (Aw B) s.heap H1 locs1 → lv_has ls1 7 [(0, .ref b), (1, .ref (y 0)), (2, .ref a), (3, .ref ob), (4, .int (nI (4 * cN)))] → W p l e room_1 s m #[Value.ref b] below meth c H1 locs1 (cells + 308) (slots + 2464) Q (F0 m 935 ls1 [])) : W p l e room_1 s m #[Value.ref b] below meth c H locs cells slots Q (F0 m 879 ls []) := by
  obtain ⟨hx, hb, hts, hown, hK, hEn⟩ := id C
  obtain ⟨⟨hC, hCB, hH⟩, hM, hG, h7, ho, hob, hon⟩ := id hI
  obtain ⟨hf1, hf2⟩ := id hf
  have hc : cN < 512 := by omega
  obtain ⟨p0, hp0⟩ : ∃ v, xs (4 * cN + 1) = v := ⟨_, rfl⟩
  refine lv_aload_n hx hb dL_law_879 rfl (lv_at hl 1 rfl) ?_
  refine lv_aload_n hx hb dL_law_880 rfl (lv_at hl 0 rfl) ?_
  refine lv_iload hx hb dL_law_881 (lv_at hl 4 rfl) ?_
  refine lv_iconst (v := 1) hx hb dL_law_883 (by decide) ?_
  refine lv_iadd hx hb dL_law_884 ?_
  refine top_i (show (nI (4 * cN)) + 1 = nI ((4 * cN) + 1) from nI_add (4 * cN) 1) ?_
  refine k_scr hx hb hX hbl hbA hS (j := ((4 * cN) + 1)) (by omega) hL hp0 dL_law_885 ?_
  refine lv_aload_n hx hb dL_law_886 rfl (lv_at hl 3 rfl) ?_
  refine k_callSWi (As := [.ref (y 0), .int p0, .ref ob]) (rest := []) C hml (c_L_clock hC hE hEx hls hCB hH hG hc hob hon) (vx_cwSW 3 hts gL_law_L_clock rfl rfl rfl (by decide +kernel) ⟨by decide, by decide⟩) hW hS hB rfl hl.1 rfl (Nat.le_of_ble_eq_true rfl) dL_law_887 ⟨show _ ≤ 601024 by omega, show _ ≤ 7293034 by omega⟩ (fun r5 S1 H locs q8 hW hS => ?_)
  have hM1 := hI.mr q8.1
  refine lv_istore (lv' := [(5, .int r5), (0, .ref b), (1, .ref (y 0)), (2, .ref a), (3, .ref ob), (4, .int (nI (4 * cN)))]) hx hb dL_law_890 hl (by decide) rfl (fun ls hl => ?_)
  refine lv_aload_n hx hb dL_law_892 rfl (lv_at hl 3 rfl) ?_
  refine lv_aload_n hx hb dL_law_893 rfl (lv_at hl 1 rfl) ?_
  refine lv_iload hx hb dL_law_894 (lv_at hl 5 rfl) ?_
  refine lv_iconst (v := 1) hx hb dL_law_896 (by decide) ?_
  refine lv_iadd hx hb dL_law_897 ?_
  refine top_i (show (nI (4 * cN)) + 1 = nI ((4 * cN) + 1) from nI_add (4 * cN) 1) ?_
  refine k_scr hx hb hX hbl hbA hS (j := ((4 * cN) + 1)) (by omega) hL hp0 dL_law_898 ?_
  refine k_callVi (As := [.int p0]) (rest := []) C hml (c_X11_clock hM1 ) (cwV 1 hts gL_law_X11_clock rfl rfl rfl (by decide +kernel) ⟨by decide, by decide⟩) hW hS hB hM1.1.1.1 (pAt_11 hM1.1.1.2) rfl rfl hl.1 rfl (Nat.le_of_ble_eq_true rfl) dL_law_899 ⟨show _ ≤ 601024 by omega, show _ ≤ 7293034 by omega⟩ (fun r6 S3 H locs q9 hW hS => ?_)
  obtain ⟨hO, hM3, e6⟩ := q9
  have hob3 := hI.ob1 q8.1 hO
  have eJ : r5 = 0 → aJ S3 ob 0 = r6.toInt64 := fun z => ((hI.out hO).trans (q8.2.2 z)).trans (congrArg Int32.toInt64 e6.symm)
  refine lv_istore (lv' := [(6, .int r6), (5, .int r5), (0, .ref b), (1, .ref (y 0)), (2, .ref a), (3, .ref ob), (4, .int (nI (4 * cN)))]) hx hb dL_law_902 hl (by decide) rfl (fun ls hl => ?_)
  refine lv_aload_n hx hb dL_law_904 rfl (lv_at hl 4 rfl) ?_
  refine k_callVi (As := []) (rest := []) C hml (c_X11_thrown hM3) (cwV 0 hts gL_law_X11_thrown rfl rfl rfl (by decide +kernel) ⟨by decide, by decide⟩) hW hS hB hM3.1.1.1 (pAt_11 hM3.1.1.2) rfl rfl hl.1 rfl (Nat.le_of_ble_eq_true rfl) dL_law_905 ⟨show _ ≤ 601024 by omega, show _ ≤ 7293034 by omega⟩ (fun r7 S4 H locs q9 hW hS => ?_)
  obtain ⟨eS, e7⟩ := q9
  rw [eS] at hW
  refine lv_iload hx hb dL_law_908 (lv_at hl 1 rfl) ?_
  refine lv_icmp_eq (tgt := 915) hx hb dL_law_910 (by decide) (fun c_910 => ?_) (fun c_910 => absurd (e7.trans (q8.2.1).symm) c_910)
  refine lv_iload hx hb dL_law_915 (lv_at hl 1 rfl) ?_
  refine lv_if_ne (tgt := 932) hx hb dL_law_917 (by decide) (fun c_917 => ?_) (fun c_917 => ?_)
  · refine lv_goto (tgt := 935) hx hb dL_law_932 (by decide) ?_
    exact W.widen (by omega) (by omega) (hgo _ _ _ _ (hI.next q8.1 hO hM3 (nx_clock hG)) hW hS (lv_sub hl [2, 3, 4, 5, 6] rfl))
  · refine lv_aload_n hx hb dL_law_920 rfl (lv_at hl 5 rfl) ?_
    refine lv_iconst (v := 0) hx hb dL_law_921 (by decide) ?_
    refine a_Jload C hW (j := 0) hob3.1 hob3.2 rfl (by omega) (by omega) dL_law_922 ?_
    refine lv_iload hx hb dL_law_923 (lv_at hl 0 rfl) ?_
    refine lv_i2l (v := r6.toInt64) hx hb dL_law_925 rfl ?_
    refine lc_eq (tgt := 932) hx hb dL_law_926 dL_law_927 (by decide) (fun c_927 => ?_) (fun c_927 => absurd (eJ c_917) c_927)
    refine lv_goto (tgt := 935) hx hb dL_law_932 (by decide) ?_
    exact W.widen (by omega) (by omega) (hgo _ _ _ _ (hI.next q8.1 hO hM3 (nx_clock hG)) hW hS (lv_sub hl [2, 3, 4, 5, 6] rfl))
