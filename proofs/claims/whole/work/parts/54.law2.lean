set_option maxHeartbeats 4000000 in
set_option maxRecDepth 100000 in
theorem lc_write {p : Program} {l : Launch} {e : Env} {s : State} {m : MethodId} {below : List Frame} {meth : Method} {c : Code} {D : va_G} {T : Nat → ClassId} {b L i B : Nat} {xs : Nat → Int32} {S : AS} {μ : ME} {H : Heap} {locs : List Loc} {ls : Array Slot} {Q : State → Prop} (F : Fx (gx D T s.heap.size 149) p s m #[Value.ref b] c code 4 R_law) (hX : va_X b L xs s s.heap) (hbl : b < s.heap.size) (hL : L ≤ 2560) (hi : i + 5 ≤ L) (hM : mainR (gx D T s.heap.size 149) μ S) (hD : modX (gx D T s.heap.size 149) μ S (fun _ => True)) (hA : aok S B) (hm : mok S) (hB : B < 800000) (hW : St (gx D T s.heap.size 149) s μ H locs) (hl : lv_has ls 4 [(0, .ref b), (1, .ref (xa (gx D T s.heap.size 149) 0)), (2, .ref (xa (gx D T s.heap.size 149) 136)), (3, .int (nI i))]) (kk : ∀ (S1 : AS) (μ1 : ME) (H1 : Heap) (locs1 : List Loc), mainR (gx D T s.heap.size 149) μ1 S1 → modX (gx D T s.heap.size 149) μ1 S1 (fun _ => True) → nxt S1 B → St (gx D T s.heap.size 149) s μ1 H1 locs1 → W p l e room_1 s m #[Value.ref b] below meth c H1 locs1 149 1628 Q (F0 m 1071 ls [])) : W p l e room_1 s m #[Value.ref b] below meth c H locs 149 1628 Q (F0 m 168 ls []) := by
  have hI := F.2.2
  have hx := F.1.1
  have hb := F.1.2.1
  have hts := F.1.2.2.2.2
  have m0 := hM.1
  obtain ⟨rh, nx, f1, fn, frd, ft, fo, fa, frw, fh, fu, fb, fz, fkp, g136, g137, g138, g139, g140, g141, g142, g143, g144, g145, g146, g147, g148, hg, hv, ht, hnx, hrw, hse, hkp, hTr⟩ := id hD
  have lt0 : 0 < xN (gx D T s.heap.size 149) := by show 0 < 149; decide
  have lt136 : 136 < xN (gx D T s.heap.size 149) := by show 136 < 149; decide
  refine lv_aload_n hx hb dL_law_168 rfl (lv_at hl 1 rfl) ?_
  refine lv_aload_n hx hb dL_law_169 rfl (lv_at hl 0 rfl) ?_
  refine lv_iload_n hx hb dL_law_170 rfl (lv_at hl 3 rfl) ?_
  refine lv_iconst (v := nI 1) hx hb dL_law_171 (by decide) ?_
  refine nv_add F dL_law_172 ?_
  refine sc_ld F hX hbl hW (by omega) hL dL_law_173 ?_
  refine cl_ie (cl_run (rest := []) F hW e_L_13 (k_write hI l (show 136 ≤ 149 by decide) hM hA hB ((xs (i + 1)))) ⟨Nat.le_of_ble_eq_true rfl, Nat.le_of_ble_eq_true rfl⟩ lt0 m0 rfl rfl rfl hl (Nat.le_of_ble_eq_true rfl) dL_law_174 ⟨Nat.le_of_ble_eq_true rfl, Nat.le_of_ble_eq_true rfl⟩) hW (fun μ1 H locs q_1 hW => ?_)
  obtain ⟨hM1, ho1⟩ := q_1
  have hD1 := modX_off hD ho1
  have g136_1 := (ho1 136 (by omega)).trans g136
  have m0_1 := hM1.1
  refine lv_aload_n hx hb dL_law_177 rfl (lv_at hl 2 rfl) ?_
  refine lv_aload_n hx hb dL_law_178 rfl (lv_at hl 0 rfl) ?_
  refine lv_iload_n hx hb dL_law_179 rfl (lv_at hl 3 rfl) ?_
  refine lv_iconst (v := nI 1) hx hb dL_law_180 (by decide) ?_
  refine nv_add F dL_law_181 ?_
  refine sc_ld F hX hbl hW (by omega) hL dL_law_182 ?_
  refine cl_ie (cl_run (rest := [.int (r_write S ((xs (i + 1))))]) F hW e_L_17 (x_write hI l (show 149 ≤ 149 by decide) hD1 hA hm hB ((xs (i + 1)))) ⟨Nat.le_of_ble_eq_true rfl, Nat.le_of_ble_eq_true rfl⟩ lt136 g136_1 rfl rfl rfl hl (Nat.le_of_ble_eq_true rfl) dL_law_183 ⟨Nat.le_of_ble_eq_true rfl, Nat.le_of_ble_eq_true rfl⟩) hW (fun μ2 H locs q_2 hW => ?_)
  obtain ⟨hD2, ho2⟩ := q_2
  have hM2 := mainR_off hM1 ho2
  refine lv_icmp_eq (tgt := 1071) hx hb dL_law_186 (by decide) (fun c_3 => ?_) (fun c_3 => ?_)
  · skip
    exact kk (s_write S ((xs (i + 1)))) μ2 _ _ hM2 hD2 (n_write hA hm _) hW
  · skip
    exact absurd rfl c_3

set_option maxHeartbeats 4000000 in
set_option maxRecDepth 100000 in
theorem lc_wipe {p : Program} {l : Launch} {e : Env} {s : State} {m : MethodId} {below : List Frame} {meth : Method} {c : Code} {D : va_G} {T : Nat → ClassId} {b L i B : Nat} {xs : Nat → Int32} {S : AS} {μ : ME} {H : Heap} {locs : List Loc} {ls : Array Slot} {Q : State → Prop} (F : Fx (gx D T s.heap.size 149) p s m #[Value.ref b] c code 4 R_law) (hX : va_X b L xs s s.heap) (hbl : b < s.heap.size) (hL : L ≤ 2560) (hi : i + 5 ≤ L) (hM : mainR (gx D T s.heap.size 149) μ S) (hD : modX (gx D T s.heap.size 149) μ S (fun _ => True)) (hA : aok S B) (hm : mok S) (hB : B < 800000) (hW : St (gx D T s.heap.size 149) s μ H locs) (hl : lv_has ls 4 [(0, .ref b), (1, .ref (xa (gx D T s.heap.size 149) 0)), (2, .ref (xa (gx D T s.heap.size 149) 136)), (3, .int (nI i))]) (kk : ∀ (S1 : AS) (μ1 : ME) (H1 : Heap) (locs1 : List Loc), mainR (gx D T s.heap.size 149) μ1 S1 → modX (gx D T s.heap.size 149) μ1 S1 (fun _ => True) → nxt S1 B → St (gx D T s.heap.size 149) s μ1 H1 locs1 → W p l e room_1 s m #[Value.ref b] below meth c H1 locs1 149 1628 Q (F0 m 1071 ls [])) : W p l e room_1 s m #[Value.ref b] below meth c H locs 149 1628 Q (F0 m 191 ls []) := by
  have hI := F.2.2
  have hx := F.1.1
  have hb := F.1.2.1
  have hts := F.1.2.2.2.2
  have m0 := hM.1
  obtain ⟨rh, nx, f1, fn, frd, ft, fo, fa, frw, fh, fu, fb, fz, fkp, g136, g137, g138, g139, g140, g141, g142, g143, g144, g145, g146, g147, g148, hg, hv, ht, hnx, hrw, hse, hkp, hTr⟩ := id hD
  have lt0 : 0 < xN (gx D T s.heap.size 149) := by show 0 < 149; decide
  have lt136 : 136 < xN (gx D T s.heap.size 149) := by show 136 < 149; decide
  refine lv_aload_n hx hb dL_law_191 rfl (lv_at hl 1 rfl) ?_
  refine cl_ie (cl_run (rest := []) F hW e_L_18 (k_wipe hI l (show 136 ≤ 149 by decide) hM hA hB ) ⟨Nat.le_of_ble_eq_true rfl, Nat.le_of_ble_eq_true rfl⟩ lt0 m0 rfl rfl rfl hl (Nat.le_of_ble_eq_true rfl) dL_law_192 ⟨Nat.le_of_ble_eq_true rfl, Nat.le_of_ble_eq_true rfl⟩) hW (fun μ1 H locs q_1 hW => ?_)
  obtain ⟨hM1, ho1⟩ := q_1
  have hD1 := modX_off hD ho1
  have g136_1 := (ho1 136 (by omega)).trans g136
  have m0_1 := hM1.1
  refine lv_aload_n hx hb dL_law_195 rfl (lv_at hl 2 rfl) ?_
  refine cl_ie (cl_run (rest := [.int (nI (An S))]) F hW e_L_22 (x_wipe hI l (show 149 ≤ 149 by decide) hD1 hA hm hB ) ⟨Nat.le_of_ble_eq_true rfl, Nat.le_of_ble_eq_true rfl⟩ lt136 g136_1 rfl rfl rfl hl (Nat.le_of_ble_eq_true rfl) dL_law_196 ⟨Nat.le_of_ble_eq_true rfl, Nat.le_of_ble_eq_true rfl⟩) hW (fun μ2 H locs q_2 hW => ?_)
  obtain ⟨hD2, ho2⟩ := q_2
  have hM2 := mainR_off hM1 ho2
  refine lv_icmp_eq (tgt := 1071) hx hb dL_law_199 (by decide) (fun c_3 => ?_) (fun c_3 => ?_)
  · skip
    exact kk (uT S (At S) 0) μ2 _ _ hM2 hD2 (n_wipe hA hm) hW
  · skip
    exact absurd rfl c_3

set_option maxHeartbeats 4000000 in
set_option maxRecDepth 100000 in
theorem lc_fault {p : Program} {l : Launch} {e : Env} {s : State} {m : MethodId} {below : List Frame} {meth : Method} {c : Code} {D : va_G} {T : Nat → ClassId} {b L i B : Nat} {xs : Nat → Int32} {S : AS} {μ : ME} {H : Heap} {locs : List Loc} {ls : Array Slot} {Q : State → Prop} (F : Fx (gx D T s.heap.size 149) p s m #[Value.ref b] c code 4 R_law) (hX : va_X b L xs s s.heap) (hbl : b < s.heap.size) (hL : L ≤ 2560) (hi : i + 5 ≤ L) (hM : mainR (gx D T s.heap.size 149) μ S) (hD : modX (gx D T s.heap.size 149) μ S (fun _ => True)) (hA : aok S B) (hm : mok S) (hB : B < 800000) (hW : St (gx D T s.heap.size 149) s μ H locs) (hl : lv_has ls 4 [(0, .ref b), (1, .ref (xa (gx D T s.heap.size 149) 0)), (2, .ref (xa (gx D T s.heap.size 149) 136)), (3, .int (nI i))]) (kk : ∀ (S1 : AS) (μ1 : ME) (H1 : Heap) (locs1 : List Loc), mainR (gx D T s.heap.size 149) μ1 S1 → modX (gx D T s.heap.size 149) μ1 S1 (fun _ => True) → nxt S1 B → St (gx D T s.heap.size 149) s μ1 H1 locs1 → W p l e room_1 s m #[Value.ref b] below meth c H1 locs1 149 1628 Q (F0 m 1071 ls [])) : W p l e room_1 s m #[Value.ref b] below meth c H locs 149 1628 Q (F0 m 204 ls []) := by
  have hI := F.2.2
  have hx := F.1.1
  have hb := F.1.2.1
  have hts := F.1.2.2.2.2
  have m0 := hM.1
  obtain ⟨rh, nx, f1, fn, frd, ft, fo, fa, frw, fh, fu, fb, fz, fkp, g136, g137, g138, g139, g140, g141, g142, g143, g144, g145, g146, g147, g148, hg, hv, ht, hnx, hrw, hse, hkp, hTr⟩ := id hD
  have lt0 : 0 < xN (gx D T s.heap.size 149) := by show 0 < 149; decide
  have lt136 : 136 < xN (gx D T s.heap.size 149) := by show 136 < 149; decide
  refine lv_aload_n hx hb dL_law_204 rfl (lv_at hl 1 rfl) ?_
  refine cl_ie (cl_run (rest := []) F hW e_L_23 (k_fault hI l (show 136 ≤ 149 by decide) hM hA hB ) ⟨Nat.le_of_ble_eq_true rfl, Nat.le_of_ble_eq_true rfl⟩ lt0 m0 rfl rfl rfl hl (Nat.le_of_ble_eq_true rfl) dL_law_205 ⟨Nat.le_of_ble_eq_true rfl, Nat.le_of_ble_eq_true rfl⟩) hW (fun μ1 H locs q_1 hW => ?_)
  obtain ⟨hM1, ho1⟩ := q_1
  have hD1 := modX_off hD ho1
  have g136_1 := (ho1 136 (by omega)).trans g136
  have m0_1 := hM1.1
  refine lv_aload_n hx hb dL_law_208 rfl (lv_at hl 2 rfl) ?_
  refine cl_ie (cl_run (rest := [.int (faultI (At S) (An S))]) F hW e_L_26 (x_fault hI l (show 149 ≤ 149 by decide) hD1 hA hm hB ) ⟨Nat.le_of_ble_eq_true rfl, Nat.le_of_ble_eq_true rfl⟩ lt136 g136_1 rfl rfl rfl hl (Nat.le_of_ble_eq_true rfl) dL_law_209 ⟨Nat.le_of_ble_eq_true rfl, Nat.le_of_ble_eq_true rfl⟩) hW (fun μ2 H locs q_2 hW => ?_)
  obtain ⟨hD2, ho2⟩ := q_2
  have hM2 := mainR_off hM1 ho2
  refine lv_icmp_eq (tgt := 1071) hx hb dL_law_212 (by decide) (fun c_3 => ?_) (fun c_3 => ?_)
  · skip
    exact kk S μ2 _ _ hM2 hD2 (n_same hA hm) hW
  · skip
    exact absurd rfl c_3

set_option maxHeartbeats 4000000 in
set_option maxRecDepth 100000 in
theorem lc_lane {p : Program} {l : Launch} {e : Env} {s : State} {m : MethodId} {below : List Frame} {meth : Method} {c : Code} {D : va_G} {T : Nat → ClassId} {b L i B : Nat} {xs : Nat → Int32} {S : AS} {μ : ME} {H : Heap} {locs : List Loc} {ls : Array Slot} {Q : State → Prop} (F : Fx (gx D T s.heap.size 149) p s m #[Value.ref b] c code 4 R_law) (hX : va_X b L xs s s.heap) (hbl : b < s.heap.size) (hL : L ≤ 2560) (hi : i + 5 ≤ L) (hM : mainR (gx D T s.heap.size 149) μ S) (hD : modX (gx D T s.heap.size 149) μ S (fun _ => True)) (hA : aok S B) (hm : mok S) (hB : B < 800000) (hW : St (gx D T s.heap.size 149) s μ H locs) (hl : lv_has ls 4 [(0, .ref b), (1, .ref (xa (gx D T s.heap.size 149) 0)), (2, .ref (xa (gx D T s.heap.size 149) 136)), (3, .int (nI i))]) (kk : ∀ (S1 : AS) (μ1 : ME) (H1 : Heap) (locs1 : List Loc), mainR (gx D T s.heap.size 149) μ1 S1 → modX (gx D T s.heap.size 149) μ1 S1 (fun _ => True) → nxt S1 B → St (gx D T s.heap.size 149) s μ1 H1 locs1 → W p l e room_1 s m #[Value.ref b] below meth c H1 locs1 149 1628 Q (F0 m 1071 ls [])) : W p l e room_1 s m #[Value.ref b] below meth c H locs 149 1628 Q (F0 m 217 ls []) := by
  have hI := F.2.2
  have hx := F.1.1
  have hb := F.1.2.1
  have hts := F.1.2.2.2.2
  have m0 := hM.1
  obtain ⟨rh, nx, f1, fn, frd, ft, fo, fa, frw, fh, fu, fb, fz, fkp, g136, g137, g138, g139, g140, g141, g142, g143, g144, g145, g146, g147, g148, hg, hv, ht, hnx, hrw, hse, hkp, hTr⟩ := id hD
  have lt0 : 0 < xN (gx D T s.heap.size 149) := by show 0 < 149; decide
  have lt136 : 136 < xN (gx D T s.heap.size 149) := by show 136 < 149; decide
  refine lv_aload_n hx hb dL_law_217 rfl (lv_at hl 1 rfl) ?_
  refine cl_ie (cl_run (rest := []) F hW e_L_27 (k_lane hI l (show 136 ≤ 149 by decide) hM hA hB ) ⟨Nat.le_of_ble_eq_true rfl, Nat.le_of_ble_eq_true rfl⟩ lt0 m0 rfl rfl rfl hl (Nat.le_of_ble_eq_true rfl) dL_law_218 ⟨Nat.le_of_ble_eq_true rfl, Nat.le_of_ble_eq_true rfl⟩) hW (fun μ1 H locs q_1 hW => ?_)
  obtain ⟨hM1, ho1⟩ := q_1
  have hD1 := modX_off hD ho1
  have g136_1 := (ho1 136 (by omega)).trans g136
  have m0_1 := hM1.1
  refine lv_aload_n hx hb dL_law_221 rfl (lv_at hl 2 rfl) ?_
  refine cl_ie (cl_run (rest := [.int (r_lane S)]) F hW e_L_30 (x_lane hI l (show 149 ≤ 149 by decide) hD1 hA hm hB ) ⟨Nat.le_of_ble_eq_true rfl, Nat.le_of_ble_eq_true rfl⟩ lt136 g136_1 rfl rfl rfl hl (Nat.le_of_ble_eq_true rfl) dL_law_222 ⟨Nat.le_of_ble_eq_true rfl, Nat.le_of_ble_eq_true rfl⟩) hW (fun μ2 H locs q_2 hW => ?_)
  obtain ⟨hD2, ho2⟩ := q_2
  have hM2 := mainR_off hM1 ho2
  refine lv_icmp_eq (tgt := 1071) hx hb dL_law_225 (by decide) (fun c_3 => ?_) (fun c_3 => ?_)
  · skip
    exact kk (s_lane S) μ2 _ _ hM2 hD2 (n_lane hA hm) hW
  · skip
    exact absurd rfl c_3

set_option maxHeartbeats 4000000 in
set_option maxRecDepth 100000 in
theorem lc_house {p : Program} {l : Launch} {e : Env} {s : State} {m : MethodId} {below : List Frame} {meth : Method} {c : Code} {D : va_G} {T : Nat → ClassId} {b L i B : Nat} {xs : Nat → Int32} {S : AS} {μ : ME} {H : Heap} {locs : List Loc} {ls : Array Slot} {Q : State → Prop} (F : Fx (gx D T s.heap.size 149) p s m #[Value.ref b] c code 4 R_law) (hX : va_X b L xs s s.heap) (hbl : b < s.heap.size) (hL : L ≤ 2560) (hi : i + 5 ≤ L) (hM : mainR (gx D T s.heap.size 149) μ S) (hD : modX (gx D T s.heap.size 149) μ S (fun _ => True)) (hA : aok S B) (hm : mok S) (hB : B < 800000) (hW : St (gx D T s.heap.size 149) s μ H locs) (hl : lv_has ls 4 [(0, .ref b), (1, .ref (xa (gx D T s.heap.size 149) 0)), (2, .ref (xa (gx D T s.heap.size 149) 136)), (3, .int (nI i))]) (kk : ∀ (S1 : AS) (μ1 : ME) (H1 : Heap) (locs1 : List Loc), mainR (gx D T s.heap.size 149) μ1 S1 → modX (gx D T s.heap.size 149) μ1 S1 (fun _ => True) → nxt S1 B → St (gx D T s.heap.size 149) s μ1 H1 locs1 → W p l e room_1 s m #[Value.ref b] below meth c H1 locs1 149 1628 Q (F0 m 1071 ls [])) : W p l e room_1 s m #[Value.ref b] below meth c H locs 149 1628 Q (F0 m 230 ls []) := by
  have hI := F.2.2
  have hx := F.1.1
  have hb := F.1.2.1
  have hts := F.1.2.2.2.2
  have m0 := hM.1
  obtain ⟨rh, nx, f1, fn, frd, ft, fo, fa, frw, fh, fu, fb, fz, fkp, g136, g137, g138, g139, g140, g141, g142, g143, g144, g145, g146, g147, g148, hg, hv, ht, hnx, hrw, hse, hkp, hTr⟩ := id hD
  have lt0 : 0 < xN (gx D T s.heap.size 149) := by show 0 < 149; decide
  have lt136 : 136 < xN (gx D T s.heap.size 149) := by show 136 < 149; decide
  refine lv_aload_n hx hb dL_law_230 rfl (lv_at hl 1 rfl) ?_
  refine lv_aload_n hx hb dL_law_231 rfl (lv_at hl 0 rfl) ?_
  refine lv_iload_n hx hb dL_law_232 rfl (lv_at hl 3 rfl) ?_
  refine lv_iconst (v := nI 1) hx hb dL_law_233 (by decide) ?_
  refine nv_add F dL_law_234 ?_
  refine sc_ld F hX hbl hW (by omega) hL dL_law_235 ?_
  refine lv_aload_n hx hb dL_law_236 rfl (lv_at hl 0 rfl) ?_
  refine lv_iload_n hx hb dL_law_237 rfl (lv_at hl 3 rfl) ?_
  refine lv_iconst (v := nI 2) hx hb dL_law_238 (by decide) ?_
  refine nv_add F dL_law_239 ?_
  refine sc_ld F hX hbl hW (by omega) hL dL_law_240 ?_
  refine cl_ie (cl_run (rest := []) F hW e_L_31 (k_house hI l (show 136 ≤ 149 by decide) hM hA hB ((xs (i + 1))) ((xs (i + 2)))) ⟨Nat.le_of_ble_eq_true rfl, Nat.le_of_ble_eq_true rfl⟩ lt0 m0 rfl rfl rfl hl (Nat.le_of_ble_eq_true rfl) dL_law_241 ⟨Nat.le_of_ble_eq_true rfl, Nat.le_of_ble_eq_true rfl⟩) hW (fun μ1 H locs q_1 hW => ?_)
  obtain ⟨hM1, ho1⟩ := q_1
  have hD1 := modX_off hD ho1
  have g136_1 := (ho1 136 (by omega)).trans g136
  have m0_1 := hM1.1
  refine lv_aload_n hx hb dL_law_244 rfl (lv_at hl 2 rfl) ?_
  refine lv_aload_n hx hb dL_law_245 rfl (lv_at hl 0 rfl) ?_
  refine lv_iload_n hx hb dL_law_246 rfl (lv_at hl 3 rfl) ?_
  refine lv_iconst (v := nI 1) hx hb dL_law_247 (by decide) ?_
  refine nv_add F dL_law_248 ?_
  refine sc_ld F hX hbl hW (by omega) hL dL_law_249 ?_
  refine lv_aload_n hx hb dL_law_250 rfl (lv_at hl 0 rfl) ?_
  refine lv_iload_n hx hb dL_law_251 rfl (lv_at hl 3 rfl) ?_
  refine lv_iconst (v := nI 2) hx hb dL_law_252 (by decide) ?_
  refine nv_add F dL_law_253 ?_
  refine sc_ld F hX hbl hW (by omega) hL dL_law_254 ?_
  refine cl_ie (cl_run (rest := [.int (r_house S ((xs (i + 1))) ((xs (i + 2))))]) F hW e_L_35 (x_house hI l (show 149 ≤ 149 by decide) hD1 hA hm hB ((xs (i + 1))) ((xs (i + 2)))) ⟨Nat.le_of_ble_eq_true rfl, Nat.le_of_ble_eq_true rfl⟩ lt136 g136_1 rfl rfl rfl hl (Nat.le_of_ble_eq_true rfl) dL_law_255 ⟨Nat.le_of_ble_eq_true rfl, Nat.le_of_ble_eq_true rfl⟩) hW (fun μ2 H locs q_2 hW => ?_)
  obtain ⟨hD2, ho2⟩ := q_2
  have hM2 := mainR_off hM1 ho2
  refine lv_icmp_eq (tgt := 1071) hx hb dL_law_258 (by decide) (fun c_3 => ?_) (fun c_3 => ?_)
  · skip
    exact kk S μ2 _ _ hM2 hD2 (n_same hA hm) hW
  · skip
    exact absurd rfl c_3

set_option maxHeartbeats 4000000 in
set_option maxRecDepth 100000 in
theorem lc_hour {p : Program} {l : Launch} {e : Env} {s : State} {m : MethodId} {below : List Frame} {meth : Method} {c : Code} {D : va_G} {T : Nat → ClassId} {b L i B : Nat} {xs : Nat → Int32} {S : AS} {μ : ME} {H : Heap} {locs : List Loc} {ls : Array Slot} {Q : State → Prop} (F : Fx (gx D T s.heap.size 149) p s m #[Value.ref b] c code 4 R_law) (hX : va_X b L xs s s.heap) (hbl : b < s.heap.size) (hL : L ≤ 2560) (hi : i + 5 ≤ L) (hM : mainR (gx D T s.heap.size 149) μ S) (hD : modX (gx D T s.heap.size 149) μ S (fun _ => True)) (hA : aok S B) (hm : mok S) (hB : B < 800000) (hW : St (gx D T s.heap.size 149) s μ H locs) (hl : lv_has ls 4 [(0, .ref b), (1, .ref (xa (gx D T s.heap.size 149) 0)), (2, .ref (xa (gx D T s.heap.size 149) 136)), (3, .int (nI i))]) (kk : ∀ (S1 : AS) (μ1 : ME) (H1 : Heap) (locs1 : List Loc), mainR (gx D T s.heap.size 149) μ1 S1 → modX (gx D T s.heap.size 149) μ1 S1 (fun _ => True) → nxt S1 B → St (gx D T s.heap.size 149) s μ1 H1 locs1 → W p l e room_1 s m #[Value.ref b] below meth c H1 locs1 149 1628 Q (F0 m 1071 ls [])) : W p l e room_1 s m #[Value.ref b] below meth c H locs 149 1628 Q (F0 m 263 ls []) := by
  have hI := F.2.2
  have hx := F.1.1
  have hb := F.1.2.1
  have hts := F.1.2.2.2.2
  have m0 := hM.1
  obtain ⟨rh, nx, f1, fn, frd, ft, fo, fa, frw, fh, fu, fb, fz, fkp, g136, g137, g138, g139, g140, g141, g142, g143, g144, g145, g146, g147, g148, hg, hv, ht, hnx, hrw, hse, hkp, hTr⟩ := id hD
  have lt0 : 0 < xN (gx D T s.heap.size 149) := by show 0 < 149; decide
  have lt136 : 136 < xN (gx D T s.heap.size 149) := by show 136 < 149; decide
  refine lv_aload_n hx hb dL_law_263 rfl (lv_at hl 1 rfl) ?_
  refine cl_ie (cl_run (rest := []) F hW e_L_36 (k_hour hI l (show 136 ≤ 149 by decide) hM hA hB ) ⟨Nat.le_of_ble_eq_true rfl, Nat.le_of_ble_eq_true rfl⟩ lt0 m0 rfl rfl rfl hl (Nat.le_of_ble_eq_true rfl) dL_law_264 ⟨Nat.le_of_ble_eq_true rfl, Nat.le_of_ble_eq_true rfl⟩) hW (fun μ1 H locs q_1 hW => ?_)
  obtain ⟨hM1, ho1⟩ := q_1
  have hD1 := modX_off hD ho1
  have g136_1 := (ho1 136 (by omega)).trans g136
  have m0_1 := hM1.1
  refine lv_aload_n hx hb dL_law_267 rfl (lv_at hl 2 rfl) ?_
  refine cl_ie (cl_run (rest := [.int (nI (pop (hF (AL S))))]) F hW e_L_39 (x_hour hI l (show 149 ≤ 149 by decide) hD1 hA hm hB ) ⟨Nat.le_of_ble_eq_true rfl, Nat.le_of_ble_eq_true rfl⟩ lt136 g136_1 rfl rfl rfl hl (Nat.le_of_ble_eq_true rfl) dL_law_268 ⟨Nat.le_of_ble_eq_true rfl, Nat.le_of_ble_eq_true rfl⟩) hW (fun μ2 H locs q_2 hW => ?_)
  obtain ⟨hD2, ho2⟩ := q_2
  have hM2 := mainR_off hM1 ho2
  refine lv_icmp_eq (tgt := 1071) hx hb dL_law_271 (by decide) (fun c_3 => ?_) (fun c_3 => ?_)
  · skip
    exact kk (uL S (hour (AL S)) (pushP (AP S) (AL S)) (min (Az S + 1) 14)) μ2 _ _ hM2 hD2 (n_hour hA hm) hW
  · skip
    exact absurd rfl c_3

set_option maxHeartbeats 4000000 in
set_option maxRecDepth 100000 in
theorem lc_bring {p : Program} {l : Launch} {e : Env} {s : State} {m : MethodId} {below : List Frame} {meth : Method} {c : Code} {D : va_G} {T : Nat → ClassId} {b L i B : Nat} {xs : Nat → Int32} {S : AS} {μ : ME} {H : Heap} {locs : List Loc} {ls : Array Slot} {Q : State → Prop} (F : Fx (gx D T s.heap.size 149) p s m #[Value.ref b] c code 4 R_law) (hX : va_X b L xs s s.heap) (hbl : b < s.heap.size) (hL : L ≤ 2560) (hi : i + 5 ≤ L) (hM : mainR (gx D T s.heap.size 149) μ S) (hD : modX (gx D T s.heap.size 149) μ S (fun _ => True)) (hA : aok S B) (hm : mok S) (hB : B < 800000) (hW : St (gx D T s.heap.size 149) s μ H locs) (hl : lv_has ls 4 [(0, .ref b), (1, .ref (xa (gx D T s.heap.size 149) 0)), (2, .ref (xa (gx D T s.heap.size 149) 136)), (3, .int (nI i))]) (kk : ∀ (S1 : AS) (μ1 : ME) (H1 : Heap) (locs1 : List Loc), mainR (gx D T s.heap.size 149) μ1 S1 → modX (gx D T s.heap.size 149) μ1 S1 (fun _ => True) → nxt S1 B → St (gx D T s.heap.size 149) s μ1 H1 locs1 → W p l e room_1 s m #[Value.ref b] below meth c H1 locs1 149 1628 Q (F0 m 1071 ls [])) : W p l e room_1 s m #[Value.ref b] below meth c H locs 149 1628 Q (F0 m 276 ls []) := by
  have hI := F.2.2
  have hx := F.1.1
  have hb := F.1.2.1
  have hts := F.1.2.2.2.2
  have m0 := hM.1
  obtain ⟨rh, nx, f1, fn, frd, ft, fo, fa, frw, fh, fu, fb, fz, fkp, g136, g137, g138, g139, g140, g141, g142, g143, g144, g145, g146, g147, g148, hg, hv, ht, hnx, hrw, hse, hkp, hTr⟩ := id hD
  have lt0 : 0 < xN (gx D T s.heap.size 149) := by show 0 < 149; decide
  have lt136 : 136 < xN (gx D T s.heap.size 149) := by show 136 < 149; decide
  refine lv_aload_n hx hb dL_law_276 rfl (lv_at hl 1 rfl) ?_
  refine lv_aload_n hx hb dL_law_277 rfl (lv_at hl 0 rfl) ?_
  refine lv_iload_n hx hb dL_law_278 rfl (lv_at hl 3 rfl) ?_
  refine lv_iconst (v := nI 1) hx hb dL_law_279 (by decide) ?_
  refine nv_add F dL_law_280 ?_
  refine sc_ld F hX hbl hW (by omega) hL dL_law_281 ?_
  refine lv_aload_n hx hb dL_law_282 rfl (lv_at hl 0 rfl) ?_
  refine lv_iload_n hx hb dL_law_283 rfl (lv_at hl 3 rfl) ?_
  refine lv_iconst (v := nI 2) hx hb dL_law_284 (by decide) ?_
  refine nv_add F dL_law_285 ?_
  refine sc_ld F hX hbl hW (by omega) hL dL_law_286 ?_
  refine cl_ie (cl_run (rest := []) F hW e_L_40 (k_bring hI l (show 136 ≤ 149 by decide) hM hA hB ((xs (i + 1))) ((xs (i + 2)))) ⟨Nat.le_of_ble_eq_true rfl, Nat.le_of_ble_eq_true rfl⟩ lt0 m0 rfl rfl rfl hl (Nat.le_of_ble_eq_true rfl) dL_law_287 ⟨Nat.le_of_ble_eq_true rfl, Nat.le_of_ble_eq_true rfl⟩) hW (fun μ1 H locs q_1 hW => ?_)
  obtain ⟨hM1, ho1⟩ := q_1
  have hD1 := modX_off hD ho1
  have g136_1 := (ho1 136 (by omega)).trans g136
  have m0_1 := hM1.1
  refine lv_aload_n hx hb dL_law_290 rfl (lv_at hl 2 rfl) ?_
  refine lv_aload_n hx hb dL_law_291 rfl (lv_at hl 0 rfl) ?_
  refine lv_iload_n hx hb dL_law_292 rfl (lv_at hl 3 rfl) ?_
  refine lv_iconst (v := nI 1) hx hb dL_law_293 (by decide) ?_
  refine nv_add F dL_law_294 ?_
  refine sc_ld F hX hbl hW (by omega) hL dL_law_295 ?_
  refine lv_aload_n hx hb dL_law_296 rfl (lv_at hl 0 rfl) ?_
  refine lv_iload_n hx hb dL_law_297 rfl (lv_at hl 3 rfl) ?_
  refine lv_iconst (v := nI 2) hx hb dL_law_298 (by decide) ?_
  refine nv_add F dL_law_299 ?_
  refine sc_ld F hX hbl hW (by omega) hL dL_law_300 ?_
  refine cl_ie (cl_run (rest := [.int (r_bring S ((xs (i + 1))) ((xs (i + 2))))]) F hW e_L_43 (x_bring hI l (show 149 ≤ 149 by decide) hD1 hA hm hB ((xs (i + 1))) ((xs (i + 2)))) ⟨Nat.le_of_ble_eq_true rfl, Nat.le_of_ble_eq_true rfl⟩ lt136 g136_1 rfl rfl rfl hl (Nat.le_of_ble_eq_true rfl) dL_law_301 ⟨Nat.le_of_ble_eq_true rfl, Nat.le_of_ble_eq_true rfl⟩) hW (fun μ2 H locs q_2 hW => ?_)
  obtain ⟨hD2, ho2⟩ := q_2
  have hM2 := mainR_off hM1 ho2
  refine lv_icmp_eq (tgt := 1071) hx hb dL_law_304 (by decide) (fun c_3 => ?_) (fun c_3 => ?_)
  · skip
    exact kk (s_bring S ((xs (i + 1))) ((xs (i + 2)))) μ2 _ _ hM2 hD2 (n_bring hA hm _ _) hW
  · skip
    exact absurd rfl c_3

set_option maxHeartbeats 4000000 in
set_option maxRecDepth 100000 in
theorem lc_take {p : Program} {l : Launch} {e : Env} {s : State} {m : MethodId} {below : List Frame} {meth : Method} {c : Code} {D : va_G} {T : Nat → ClassId} {b L i B : Nat} {xs : Nat → Int32} {S : AS} {μ : ME} {H : Heap} {locs : List Loc} {ls : Array Slot} {Q : State → Prop} (F : Fx (gx D T s.heap.size 149) p s m #[Value.ref b] c code 4 R_law) (hX : va_X b L xs s s.heap) (hbl : b < s.heap.size) (hL : L ≤ 2560) (hi : i + 5 ≤ L) (hM : mainR (gx D T s.heap.size 149) μ S) (hD : modX (gx D T s.heap.size 149) μ S (fun _ => True)) (hA : aok S B) (hm : mok S) (hB : B < 800000) (hW : St (gx D T s.heap.size 149) s μ H locs) (hl : lv_has ls 4 [(0, .ref b), (1, .ref (xa (gx D T s.heap.size 149) 0)), (2, .ref (xa (gx D T s.heap.size 149) 136)), (3, .int (nI i))]) (kk : ∀ (S1 : AS) (μ1 : ME) (H1 : Heap) (locs1 : List Loc), mainR (gx D T s.heap.size 149) μ1 S1 → modX (gx D T s.heap.size 149) μ1 S1 (fun _ => True) → nxt S1 B → St (gx D T s.heap.size 149) s μ1 H1 locs1 → W p l e room_1 s m #[Value.ref b] below meth c H1 locs1 149 1628 Q (F0 m 1071 ls [])) : W p l e room_1 s m #[Value.ref b] below meth c H locs 149 1628 Q (F0 m 309 ls []) := by
  have hI := F.2.2
  have hx := F.1.1
  have hb := F.1.2.1
  have hts := F.1.2.2.2.2
  have m0 := hM.1
  obtain ⟨rh, nx, f1, fn, frd, ft, fo, fa, frw, fh, fu, fb, fz, fkp, g136, g137, g138, g139, g140, g141, g142, g143, g144, g145, g146, g147, g148, hg, hv, ht, hnx, hrw, hse, hkp, hTr⟩ := id hD
  have lt0 : 0 < xN (gx D T s.heap.size 149) := by show 0 < 149; decide
  have lt136 : 136 < xN (gx D T s.heap.size 149) := by show 136 < 149; decide
  refine lv_aload_n hx hb dL_law_309 rfl (lv_at hl 1 rfl) ?_
  refine lv_aload_n hx hb dL_law_310 rfl (lv_at hl 0 rfl) ?_
  refine lv_iload_n hx hb dL_law_311 rfl (lv_at hl 3 rfl) ?_
  refine lv_iconst (v := nI 1) hx hb dL_law_312 (by decide) ?_
  refine nv_add F dL_law_313 ?_
  refine sc_ld F hX hbl hW (by omega) hL dL_law_314 ?_
  refine lv_aload_n hx hb dL_law_315 rfl (lv_at hl 0 rfl) ?_
  refine lv_iload_n hx hb dL_law_316 rfl (lv_at hl 3 rfl) ?_
  refine lv_iconst (v := nI 2) hx hb dL_law_317 (by decide) ?_
  refine nv_add F dL_law_318 ?_
  refine sc_ld F hX hbl hW (by omega) hL dL_law_319 ?_
  refine cl_ie (cl_run (rest := []) F hW e_L_44 (k_take hI l (show 136 ≤ 149 by decide) hM hA hB ((xs (i + 1))) ((xs (i + 2)))) ⟨Nat.le_of_ble_eq_true rfl, Nat.le_of_ble_eq_true rfl⟩ lt0 m0 rfl rfl rfl hl (Nat.le_of_ble_eq_true rfl) dL_law_320 ⟨Nat.le_of_ble_eq_true rfl, Nat.le_of_ble_eq_true rfl⟩) hW (fun μ1 H locs q_1 hW => ?_)
  obtain ⟨hM1, ho1⟩ := q_1
  have hD1 := modX_off hD ho1
  have g136_1 := (ho1 136 (by omega)).trans g136
  have m0_1 := hM1.1
  refine lv_aload_n hx hb dL_law_323 rfl (lv_at hl 2 rfl) ?_
  refine lv_aload_n hx hb dL_law_324 rfl (lv_at hl 0 rfl) ?_
  refine lv_iload_n hx hb dL_law_325 rfl (lv_at hl 3 rfl) ?_
  refine lv_iconst (v := nI 1) hx hb dL_law_326 (by decide) ?_
  refine nv_add F dL_law_327 ?_
  refine sc_ld F hX hbl hW (by omega) hL dL_law_328 ?_
  refine lv_aload_n hx hb dL_law_329 rfl (lv_at hl 0 rfl) ?_
  refine lv_iload_n hx hb dL_law_330 rfl (lv_at hl 3 rfl) ?_
  refine lv_iconst (v := nI 2) hx hb dL_law_331 (by decide) ?_
  refine nv_add F dL_law_332 ?_
  refine sc_ld F hX hbl hW (by omega) hL dL_law_333 ?_
  refine cl_ie (cl_run (rest := [.int (r_take S ((xs (i + 1))) ((xs (i + 2))))]) F hW e_L_47 (x_take hI l (show 149 ≤ 149 by decide) hD1 hA hm hB ((xs (i + 1))) ((xs (i + 2)))) ⟨Nat.le_of_ble_eq_true rfl, Nat.le_of_ble_eq_true rfl⟩ lt136 g136_1 rfl rfl rfl hl (Nat.le_of_ble_eq_true rfl) dL_law_334 ⟨Nat.le_of_ble_eq_true rfl, Nat.le_of_ble_eq_true rfl⟩) hW (fun μ2 H locs q_2 hW => ?_)
  obtain ⟨hD2, ho2⟩ := q_2
  have hM2 := mainR_off hM1 ho2
  refine lv_icmp_eq (tgt := 1071) hx hb dL_law_337 (by decide) (fun c_3 => ?_) (fun c_3 => ?_)
  · skip
    exact kk (s_take S ((xs (i + 1))) ((xs (i + 2)))) μ2 _ _ hM2 hD2 (n_take hA hm _ _) hW
  · skip
    exact absurd rfl c_3

set_option maxHeartbeats 4000000 in
set_option maxRecDepth 100000 in
theorem lc_deed {p : Program} {l : Launch} {e : Env} {s : State} {m : MethodId} {below : List Frame} {meth : Method} {c : Code} {D : va_G} {T : Nat → ClassId} {b L i B : Nat} {xs : Nat → Int32} {S : AS} {μ : ME} {H : Heap} {locs : List Loc} {ls : Array Slot} {Q : State → Prop} (F : Fx (gx D T s.heap.size 149) p s m #[Value.ref b] c code 4 R_law) (hX : va_X b L xs s s.heap) (hbl : b < s.heap.size) (hL : L ≤ 2560) (hi : i + 5 ≤ L) (hM : mainR (gx D T s.heap.size 149) μ S) (hD : modX (gx D T s.heap.size 149) μ S (fun _ => True)) (hA : aok S B) (hm : mok S) (hB : B < 800000) (hW : St (gx D T s.heap.size 149) s μ H locs) (hl : lv_has ls 4 [(0, .ref b), (1, .ref (xa (gx D T s.heap.size 149) 0)), (2, .ref (xa (gx D T s.heap.size 149) 136)), (3, .int (nI i))]) (kk : ∀ (S1 : AS) (μ1 : ME) (H1 : Heap) (locs1 : List Loc), mainR (gx D T s.heap.size 149) μ1 S1 → modX (gx D T s.heap.size 149) μ1 S1 (fun _ => True) → nxt S1 B → St (gx D T s.heap.size 149) s μ1 H1 locs1 → W p l e room_1 s m #[Value.ref b] below meth c H1 locs1 149 1628 Q (F0 m 1071 ls [])) : W p l e room_1 s m #[Value.ref b] below meth c H locs 149 1628 Q (F0 m 342 ls []) := by
  have hI := F.2.2
  have hx := F.1.1
  have hb := F.1.2.1
  have hts := F.1.2.2.2.2
  have m0 := hM.1
  obtain ⟨rh, nx, f1, fn, frd, ft, fo, fa, frw, fh, fu, fb, fz, fkp, g136, g137, g138, g139, g140, g141, g142, g143, g144, g145, g146, g147, g148, hg, hv, ht, hnx, hrw, hse, hkp, hTr⟩ := id hD
  have lt0 : 0 < xN (gx D T s.heap.size 149) := by show 0 < 149; decide
  have lt136 : 136 < xN (gx D T s.heap.size 149) := by show 136 < 149; decide
  refine lv_aload_n hx hb dL_law_342 rfl (lv_at hl 1 rfl) ?_
  refine lv_aload_n hx hb dL_law_343 rfl (lv_at hl 0 rfl) ?_
  refine lv_iload_n hx hb dL_law_344 rfl (lv_at hl 3 rfl) ?_
  refine lv_iconst (v := nI 1) hx hb dL_law_345 (by decide) ?_
  refine nv_add F dL_law_346 ?_
  refine sc_ld F hX hbl hW (by omega) hL dL_law_347 ?_
  refine lv_aload_n hx hb dL_law_348 rfl (lv_at hl 0 rfl) ?_
  refine lv_iload_n hx hb dL_law_349 rfl (lv_at hl 3 rfl) ?_
  refine lv_iconst (v := nI 2) hx hb dL_law_350 (by decide) ?_
  refine nv_add F dL_law_351 ?_
  refine sc_ld F hX hbl hW (by omega) hL dL_law_352 ?_
  refine cl_ie (cl_run (rest := []) F hW e_L_48 (k_deed hI l (show 136 ≤ 149 by decide) hM hA hB ((xs (i + 1))) ((xs (i + 2)))) ⟨Nat.le_of_ble_eq_true rfl, Nat.le_of_ble_eq_true rfl⟩ lt0 m0 rfl rfl rfl hl (Nat.le_of_ble_eq_true rfl) dL_law_353 ⟨Nat.le_of_ble_eq_true rfl, Nat.le_of_ble_eq_true rfl⟩) hW (fun μ1 H locs q_1 hW => ?_)
  obtain ⟨hM1, ho1⟩ := q_1
  have hD1 := modX_off hD ho1
  have g136_1 := (ho1 136 (by omega)).trans g136
  have m0_1 := hM1.1
  refine lv_aload_n hx hb dL_law_356 rfl (lv_at hl 2 rfl) ?_
  refine lv_aload_n hx hb dL_law_357 rfl (lv_at hl 0 rfl) ?_
  refine lv_iload_n hx hb dL_law_358 rfl (lv_at hl 3 rfl) ?_
  refine lv_iconst (v := nI 1) hx hb dL_law_359 (by decide) ?_
  refine nv_add F dL_law_360 ?_
  refine sc_ld F hX hbl hW (by omega) hL dL_law_361 ?_
  refine lv_aload_n hx hb dL_law_362 rfl (lv_at hl 0 rfl) ?_
  refine lv_iload_n hx hb dL_law_363 rfl (lv_at hl 3 rfl) ?_
  refine lv_iconst (v := nI 2) hx hb dL_law_364 (by decide) ?_
  refine nv_add F dL_law_365 ?_
  refine sc_ld F hX hbl hW (by omega) hL dL_law_366 ?_
  refine cl_ie (cl_run (rest := [.int (r_deed S ((xs (i + 1))) ((xs (i + 2))))]) F hW e_L_51 (x_deed hI l (show 149 ≤ 149 by decide) hD1 hA hm hB ((xs (i + 1))) ((xs (i + 2)))) ⟨Nat.le_of_ble_eq_true rfl, Nat.le_of_ble_eq_true rfl⟩ lt136 g136_1 rfl rfl rfl hl (Nat.le_of_ble_eq_true rfl) dL_law_367 ⟨Nat.le_of_ble_eq_true rfl, Nat.le_of_ble_eq_true rfl⟩) hW (fun μ2 H locs q_2 hW => ?_)
  obtain ⟨hD2, ho2⟩ := q_2
  have hM2 := mainR_off hM1 ho2
  refine lv_icmp_eq (tgt := 1071) hx hb dL_law_370 (by decide) (fun c_3 => ?_) (fun c_3 => ?_)
  · skip
    exact kk (s_deed S ((xs (i + 1))) ((xs (i + 2)))) μ2 _ _ hM2 hD2 (n_deed hA hm _ _) hW
  · skip
    exact absurd rfl c_3

set_option maxHeartbeats 4000000 in
set_option maxRecDepth 100000 in
theorem lc_build {p : Program} {l : Launch} {e : Env} {s : State} {m : MethodId} {below : List Frame} {meth : Method} {c : Code} {D : va_G} {T : Nat → ClassId} {b L i B : Nat} {xs : Nat → Int32} {S : AS} {μ : ME} {H : Heap} {locs : List Loc} {ls : Array Slot} {Q : State → Prop} (F : Fx (gx D T s.heap.size 149) p s m #[Value.ref b] c code 4 R_law) (hX : va_X b L xs s s.heap) (hbl : b < s.heap.size) (hL : L ≤ 2560) (hi : i + 5 ≤ L) (hM : mainR (gx D T s.heap.size 149) μ S) (hD : modX (gx D T s.heap.size 149) μ S (fun _ => True)) (hA : aok S B) (hm : mok S) (hB : B < 800000) (hW : St (gx D T s.heap.size 149) s μ H locs) (hl : lv_has ls 4 [(0, .ref b), (1, .ref (xa (gx D T s.heap.size 149) 0)), (2, .ref (xa (gx D T s.heap.size 149) 136)), (3, .int (nI i))]) (kk : ∀ (S1 : AS) (μ1 : ME) (H1 : Heap) (locs1 : List Loc), mainR (gx D T s.heap.size 149) μ1 S1 → modX (gx D T s.heap.size 149) μ1 S1 (fun _ => True) → nxt S1 B → St (gx D T s.heap.size 149) s μ1 H1 locs1 → W p l e room_1 s m #[Value.ref b] below meth c H1 locs1 149 1628 Q (F0 m 1071 ls [])) : W p l e room_1 s m #[Value.ref b] below meth c H locs 149 1628 Q (F0 m 375 ls []) := by
  have hI := F.2.2
  have hx := F.1.1
  have hb := F.1.2.1
  have hts := F.1.2.2.2.2
  have m0 := hM.1
  obtain ⟨rh, nx, f1, fn, frd, ft, fo, fa, frw, fh, fu, fb, fz, fkp, g136, g137, g138, g139, g140, g141, g142, g143, g144, g145, g146, g147, g148, hg, hv, ht, hnx, hrw, hse, hkp, hTr⟩ := id hD
  have lt0 : 0 < xN (gx D T s.heap.size 149) := by show 0 < 149; decide
  have lt136 : 136 < xN (gx D T s.heap.size 149) := by show 136 < 149; decide
  refine lv_aload_n hx hb dL_law_375 rfl (lv_at hl 1 rfl) ?_
  refine lv_aload_n hx hb dL_law_376 rfl (lv_at hl 0 rfl) ?_
  refine lv_iload_n hx hb dL_law_377 rfl (lv_at hl 3 rfl) ?_
  refine lv_iconst (v := nI 1) hx hb dL_law_378 (by decide) ?_
  refine nv_add F dL_law_379 ?_
  refine sc_ld F hX hbl hW (by omega) hL dL_law_380 ?_
  refine cl_ie (cl_run (rest := []) F hW e_L_52 (k_build hI l (show 136 ≤ 149 by decide) hM hA hB ((xs (i + 1)))) ⟨Nat.le_of_ble_eq_true rfl, Nat.le_of_ble_eq_true rfl⟩ lt0 m0 rfl rfl rfl hl (Nat.le_of_ble_eq_true rfl) dL_law_381 ⟨Nat.le_of_ble_eq_true rfl, Nat.le_of_ble_eq_true rfl⟩) hW (fun μ1 H locs q_1 hW => ?_)
  obtain ⟨hM1, ho1⟩ := q_1
  have hD1 := modX_off hD ho1
  have g136_1 := (ho1 136 (by omega)).trans g136
  have m0_1 := hM1.1
  refine lv_aload_n hx hb dL_law_384 rfl (lv_at hl 2 rfl) ?_
  refine lv_aload_n hx hb dL_law_385 rfl (lv_at hl 0 rfl) ?_
  refine lv_iload_n hx hb dL_law_386 rfl (lv_at hl 3 rfl) ?_
  refine lv_iconst (v := nI 1) hx hb dL_law_387 (by decide) ?_
  refine nv_add F dL_law_388 ?_
  refine sc_ld F hX hbl hW (by omega) hL dL_law_389 ?_
  refine cl_ie (cl_run (rest := [.int (r_build S ((xs (i + 1))))]) F hW e_L_55 (x_build hI l (show 149 ≤ 149 by decide) hD1 hA hm hB ((xs (i + 1)))) ⟨Nat.le_of_ble_eq_true rfl, Nat.le_of_ble_eq_true rfl⟩ lt136 g136_1 rfl rfl rfl hl (Nat.le_of_ble_eq_true rfl) dL_law_390 ⟨Nat.le_of_ble_eq_true rfl, Nat.le_of_ble_eq_true rfl⟩) hW (fun μ2 H locs q_2 hW => ?_)
  obtain ⟨hD2, ho2⟩ := q_2
  have hM2 := mainR_off hM1 ho2
  refine lv_icmp_eq (tgt := 1071) hx hb dL_law_393 (by decide) (fun c_3 => ?_) (fun c_3 => ?_)
  · skip
    exact kk (s_build S ((xs (i + 1)))) μ2 _ _ hM2 hD2 (n_build hA hm _) hW
  · skip
    exact absurd rfl c_3

set_option maxHeartbeats 4000000 in
set_option maxRecDepth 100000 in
theorem lc_undo {p : Program} {l : Launch} {e : Env} {s : State} {m : MethodId} {below : List Frame} {meth : Method} {c : Code} {D : va_G} {T : Nat → ClassId} {b L i B : Nat} {xs : Nat → Int32} {S : AS} {μ : ME} {H : Heap} {locs : List Loc} {ls : Array Slot} {Q : State → Prop} (F : Fx (gx D T s.heap.size 149) p s m #[Value.ref b] c code 4 R_law) (hX : va_X b L xs s s.heap) (hbl : b < s.heap.size) (hL : L ≤ 2560) (hi : i + 5 ≤ L) (hM : mainR (gx D T s.heap.size 149) μ S) (hD : modX (gx D T s.heap.size 149) μ S (fun _ => True)) (hA : aok S B) (hm : mok S) (hB : B < 800000) (hW : St (gx D T s.heap.size 149) s μ H locs) (hl : lv_has ls 4 [(0, .ref b), (1, .ref (xa (gx D T s.heap.size 149) 0)), (2, .ref (xa (gx D T s.heap.size 149) 136)), (3, .int (nI i))]) (kk : ∀ (S1 : AS) (μ1 : ME) (H1 : Heap) (locs1 : List Loc), mainR (gx D T s.heap.size 149) μ1 S1 → modX (gx D T s.heap.size 149) μ1 S1 (fun _ => True) → nxt S1 B → St (gx D T s.heap.size 149) s μ1 H1 locs1 → W p l e room_1 s m #[Value.ref b] below meth c H1 locs1 149 1628 Q (F0 m 1071 ls [])) : W p l e room_1 s m #[Value.ref b] below meth c H locs 149 1628 Q (F0 m 398 ls []) := by
  have hI := F.2.2
  have hx := F.1.1
  have hb := F.1.2.1
  have hts := F.1.2.2.2.2
  have m0 := hM.1
  obtain ⟨rh, nx, f1, fn, frd, ft, fo, fa, frw, fh, fu, fb, fz, fkp, g136, g137, g138, g139, g140, g141, g142, g143, g144, g145, g146, g147, g148, hg, hv, ht, hnx, hrw, hse, hkp, hTr⟩ := id hD
  have lt0 : 0 < xN (gx D T s.heap.size 149) := by show 0 < 149; decide
  have lt136 : 136 < xN (gx D T s.heap.size 149) := by show 136 < 149; decide
  refine lv_aload_n hx hb dL_law_398 rfl (lv_at hl 1 rfl) ?_
  refine cl_ie (cl_run (rest := []) F hW e_L_56 (k_undo hI l (show 136 ≤ 149 by decide) hM hA hB ) ⟨Nat.le_of_ble_eq_true rfl, Nat.le_of_ble_eq_true rfl⟩ lt0 m0 rfl rfl rfl hl (Nat.le_of_ble_eq_true rfl) dL_law_399 ⟨Nat.le_of_ble_eq_true rfl, Nat.le_of_ble_eq_true rfl⟩) hW (fun μ1 H locs q_1 hW => ?_)
  obtain ⟨hM1, ho1⟩ := q_1
  have hD1 := modX_off hD ho1
  have g136_1 := (ho1 136 (by omega)).trans g136
  have m0_1 := hM1.1
  refine lv_aload_n hx hb dL_law_402 rfl (lv_at hl 2 rfl) ?_
  refine cl_ie (cl_run (rest := [.int (r_undo S)]) F hW e_L_59 (x_undo hI l (show 149 ≤ 149 by decide) hD1 hA hm hB ) ⟨Nat.le_of_ble_eq_true rfl, Nat.le_of_ble_eq_true rfl⟩ lt136 g136_1 rfl rfl rfl hl (Nat.le_of_ble_eq_true rfl) dL_law_403 ⟨Nat.le_of_ble_eq_true rfl, Nat.le_of_ble_eq_true rfl⟩) hW (fun μ2 H locs q_2 hW => ?_)
  obtain ⟨hD2, ho2⟩ := q_2
  have hM2 := mainR_off hM1 ho2
  refine lv_icmp_eq (tgt := 1071) hx hb dL_law_406 (by decide) (fun c_3 => ?_) (fun c_3 => ?_)
  · skip
    exact kk (s_undo S) μ2 _ _ hM2 hD2 (n_undo hA hm) hW
  · skip
    exact absurd rfl c_3

set_option maxHeartbeats 4000000 in
set_option maxRecDepth 100000 in
theorem lc_later {p : Program} {l : Launch} {e : Env} {s : State} {m : MethodId} {below : List Frame} {meth : Method} {c : Code} {D : va_G} {T : Nat → ClassId} {b L i B : Nat} {xs : Nat → Int32} {S : AS} {μ : ME} {H : Heap} {locs : List Loc} {ls : Array Slot} {Q : State → Prop} (F : Fx (gx D T s.heap.size 149) p s m #[Value.ref b] c code 4 R_law) (hX : va_X b L xs s s.heap) (hbl : b < s.heap.size) (hL : L ≤ 2560) (hi : i + 5 ≤ L) (hM : mainR (gx D T s.heap.size 149) μ S) (hD : modX (gx D T s.heap.size 149) μ S (fun _ => True)) (hA : aok S B) (hm : mok S) (hB : B < 800000) (hW : St (gx D T s.heap.size 149) s μ H locs) (hl : lv_has ls 4 [(0, .ref b), (1, .ref (xa (gx D T s.heap.size 149) 0)), (2, .ref (xa (gx D T s.heap.size 149) 136)), (3, .int (nI i))]) (kk : ∀ (S1 : AS) (μ1 : ME) (H1 : Heap) (locs1 : List Loc), mainR (gx D T s.heap.size 149) μ1 S1 → modX (gx D T s.heap.size 149) μ1 S1 (fun _ => True) → nxt S1 B → St (gx D T s.heap.size 149) s μ1 H1 locs1 → W p l e room_1 s m #[Value.ref b] below meth c H1 locs1 149 1628 Q (F0 m 1071 ls [])) : W p l e room_1 s m #[Value.ref b] below meth c H locs 149 1628 Q (F0 m 411 ls []) := by
  have hI := F.2.2
  have hx := F.1.1
  have hb := F.1.2.1
  have hts := F.1.2.2.2.2
  have m0 := hM.1
  obtain ⟨rh, nx, f1, fn, frd, ft, fo, fa, frw, fh, fu, fb, fz, fkp, g136, g137, g138, g139, g140, g141, g142, g143, g144, g145, g146, g147, g148, hg, hv, ht, hnx, hrw, hse, hkp, hTr⟩ := id hD
  have lt0 : 0 < xN (gx D T s.heap.size 149) := by show 0 < 149; decide
  have lt136 : 136 < xN (gx D T s.heap.size 149) := by show 136 < 149; decide
  refine lv_aload_n hx hb dL_law_411 rfl (lv_at hl 1 rfl) ?_
  refine lv_aload_n hx hb dL_law_412 rfl (lv_at hl 0 rfl) ?_
  refine lv_iload_n hx hb dL_law_413 rfl (lv_at hl 3 rfl) ?_
  refine lv_iconst (v := nI 1) hx hb dL_law_414 (by decide) ?_
  refine nv_add F dL_law_415 ?_
  refine sc_ld F hX hbl hW (by omega) hL dL_law_416 ?_
  refine lv_aload_n hx hb dL_law_417 rfl (lv_at hl 0 rfl) ?_
  refine lv_iload_n hx hb dL_law_418 rfl (lv_at hl 3 rfl) ?_
  refine lv_iconst (v := nI 2) hx hb dL_law_419 (by decide) ?_
  refine nv_add F dL_law_420 ?_
  refine sc_ld F hX hbl hW (by omega) hL dL_law_421 ?_
  refine lv_aload_n hx hb dL_law_422 rfl (lv_at hl 0 rfl) ?_
  refine lv_iload_n hx hb dL_law_423 rfl (lv_at hl 3 rfl) ?_
  refine lv_iconst (v := nI 3) hx hb dL_law_424 (by decide) ?_
  refine nv_add F dL_law_425 ?_
  refine sc_ld F hX hbl hW (by omega) hL dL_law_426 ?_
  refine cl_ie (cl_run (rest := []) F hW e_L_60 (k_later hI l (show 136 ≤ 149 by decide) hM hA hB ((xs (i + 1))) ((xs (i + 2))) ((xs (i + 3)))) ⟨Nat.le_of_ble_eq_true rfl, Nat.le_of_ble_eq_true rfl⟩ lt0 m0 rfl rfl rfl hl (Nat.le_of_ble_eq_true rfl) dL_law_427 ⟨Nat.le_of_ble_eq_true rfl, Nat.le_of_ble_eq_true rfl⟩) hW (fun μ1 H locs q_1 hW => ?_)
  obtain ⟨hM1, ho1⟩ := q_1
  have hD1 := modX_off hD ho1
  have g136_1 := (ho1 136 (by omega)).trans g136
  have m0_1 := hM1.1
  refine lv_aload_n hx hb dL_law_430 rfl (lv_at hl 2 rfl) ?_
  refine lv_aload_n hx hb dL_law_431 rfl (lv_at hl 0 rfl) ?_
  refine lv_iload_n hx hb dL_law_432 rfl (lv_at hl 3 rfl) ?_
  refine lv_iconst (v := nI 1) hx hb dL_law_433 (by decide) ?_
  refine nv_add F dL_law_434 ?_
  refine sc_ld F hX hbl hW (by omega) hL dL_law_435 ?_
  refine lv_aload_n hx hb dL_law_436 rfl (lv_at hl 0 rfl) ?_
  refine lv_iload_n hx hb dL_law_437 rfl (lv_at hl 3 rfl) ?_
  refine lv_iconst (v := nI 2) hx hb dL_law_438 (by decide) ?_
  refine nv_add F dL_law_439 ?_
  refine sc_ld F hX hbl hW (by omega) hL dL_law_440 ?_
  refine lv_aload_n hx hb dL_law_441 rfl (lv_at hl 0 rfl) ?_
  refine lv_iload_n hx hb dL_law_442 rfl (lv_at hl 3 rfl) ?_
  refine lv_iconst (v := nI 3) hx hb dL_law_443 (by decide) ?_
  refine nv_add F dL_law_444 ?_
  refine sc_ld F hX hbl hW (by omega) hL dL_law_445 ?_
  refine cl_ie (cl_run (rest := [.int (r_later S ((xs (i + 1))) ((xs (i + 2))) ((xs (i + 3))))]) F hW e_L_64 (x_later hI l (show 149 ≤ 149 by decide) hD1 hA hm hB ((xs (i + 1))) ((xs (i + 2))) ((xs (i + 3)))) ⟨Nat.le_of_ble_eq_true rfl, Nat.le_of_ble_eq_true rfl⟩ lt136 g136_1 rfl rfl rfl hl (Nat.le_of_ble_eq_true rfl) dL_law_446 ⟨Nat.le_of_ble_eq_true rfl, Nat.le_of_ble_eq_true rfl⟩) hW (fun μ2 H locs q_2 hW => ?_)
  obtain ⟨hD2, ho2⟩ := q_2
  have hM2 := mainR_off hM1 ho2
  refine lv_icmp_eq (tgt := 1071) hx hb dL_law_449 (by decide) (fun c_3 => ?_) (fun c_3 => ?_)
  · skip
    exact kk S μ2 _ _ hM2 hD2 (n_same hA hm) hW
  · skip
    exact absurd rfl c_3

set_option maxHeartbeats 4000000 in
set_option maxRecDepth 100000 in
theorem lc_standing {p : Program} {l : Launch} {e : Env} {s : State} {m : MethodId} {below : List Frame} {meth : Method} {c : Code} {D : va_G} {T : Nat → ClassId} {b L i B : Nat} {xs : Nat → Int32} {S : AS} {μ : ME} {H : Heap} {locs : List Loc} {ls : Array Slot} {Q : State → Prop} (F : Fx (gx D T s.heap.size 149) p s m #[Value.ref b] c code 4 R_law) (hX : va_X b L xs s s.heap) (hbl : b < s.heap.size) (hL : L ≤ 2560) (hi : i + 5 ≤ L) (hM : mainR (gx D T s.heap.size 149) μ S) (hD : modX (gx D T s.heap.size 149) μ S (fun _ => True)) (hA : aok S B) (hm : mok S) (hB : B < 800000) (hW : St (gx D T s.heap.size 149) s μ H locs) (hl : lv_has ls 4 [(0, .ref b), (1, .ref (xa (gx D T s.heap.size 149) 0)), (2, .ref (xa (gx D T s.heap.size 149) 136)), (3, .int (nI i))]) (kk : ∀ (S1 : AS) (μ1 : ME) (H1 : Heap) (locs1 : List Loc), mainR (gx D T s.heap.size 149) μ1 S1 → modX (gx D T s.heap.size 149) μ1 S1 (fun _ => True) → nxt S1 B → St (gx D T s.heap.size 149) s μ1 H1 locs1 → W p l e room_1 s m #[Value.ref b] below meth c H1 locs1 149 1628 Q (F0 m 1071 ls [])) : W p l e room_1 s m #[Value.ref b] below meth c H locs 149 1628 Q (F0 m 454 ls []) := by
  have hI := F.2.2
  have hx := F.1.1
  have hb := F.1.2.1
  have hts := F.1.2.2.2.2
  have m0 := hM.1
  obtain ⟨rh, nx, f1, fn, frd, ft, fo, fa, frw, fh, fu, fb, fz, fkp, g136, g137, g138, g139, g140, g141, g142, g143, g144, g145, g146, g147, g148, hg, hv, ht, hnx, hrw, hse, hkp, hTr⟩ := id hD
  have lt0 : 0 < xN (gx D T s.heap.size 149) := by show 0 < 149; decide
  have lt136 : 136 < xN (gx D T s.heap.size 149) := by show 136 < 149; decide
  refine lv_aload_n hx hb dL_law_454 rfl (lv_at hl 1 rfl) ?_
  refine lv_aload_n hx hb dL_law_455 rfl (lv_at hl 0 rfl) ?_
  refine lv_iload_n hx hb dL_law_456 rfl (lv_at hl 3 rfl) ?_
  refine lv_iconst (v := nI 1) hx hb dL_law_457 (by decide) ?_
  refine nv_add F dL_law_458 ?_
  refine sc_ld F hX hbl hW (by omega) hL dL_law_459 ?_
  refine cl_ie (cl_run (rest := []) F hW e_L_65 (k_standing hI l (show 136 ≤ 149 by decide) hM hA hB ((xs (i + 1)))) ⟨Nat.le_of_ble_eq_true rfl, Nat.le_of_ble_eq_true rfl⟩ lt0 m0 rfl rfl rfl hl (Nat.le_of_ble_eq_true rfl) dL_law_460 ⟨Nat.le_of_ble_eq_true rfl, Nat.le_of_ble_eq_true rfl⟩) hW (fun μ1 H locs q_1 hW => ?_)
  obtain ⟨hM1, ho1⟩ := q_1
  have hD1 := modX_off hD ho1
  have g136_1 := (ho1 136 (by omega)).trans g136
  have m0_1 := hM1.1
  refine lv_aload_n hx hb dL_law_463 rfl (lv_at hl 2 rfl) ?_
  refine lv_aload_n hx hb dL_law_464 rfl (lv_at hl 0 rfl) ?_
  refine lv_iload_n hx hb dL_law_465 rfl (lv_at hl 3 rfl) ?_
  refine lv_iconst (v := nI 1) hx hb dL_law_466 (by decide) ?_
  refine nv_add F dL_law_467 ?_
  refine sc_ld F hX hbl hW (by omega) hL dL_law_468 ?_
  refine cl_ie (cl_run (rest := [.int (r_standing S ((xs (i + 1))))]) F hW e_L_68 (x_standing hI l (show 149 ≤ 149 by decide) hD1 hA hm hB ((xs (i + 1)))) ⟨Nat.le_of_ble_eq_true rfl, Nat.le_of_ble_eq_true rfl⟩ lt136 g136_1 rfl rfl rfl hl (Nat.le_of_ble_eq_true rfl) dL_law_469 ⟨Nat.le_of_ble_eq_true rfl, Nat.le_of_ble_eq_true rfl⟩) hW (fun μ2 H locs q_2 hW => ?_)
  obtain ⟨hD2, ho2⟩ := q_2
  have hM2 := mainR_off hM1 ho2
  refine lv_icmp_eq (tgt := 1071) hx hb dL_law_472 (by decide) (fun c_3 => ?_) (fun c_3 => ?_)
  · skip
    exact kk S μ2 _ _ hM2 hD2 (n_same hA hm) hW
  · skip
    exact absurd rfl c_3

set_option maxHeartbeats 4000000 in
set_option maxRecDepth 100000 in
theorem lc_falls {p : Program} {l : Launch} {e : Env} {s : State} {m : MethodId} {below : List Frame} {meth : Method} {c : Code} {D : va_G} {T : Nat → ClassId} {b L i B : Nat} {xs : Nat → Int32} {S : AS} {μ : ME} {H : Heap} {locs : List Loc} {ls : Array Slot} {Q : State → Prop} (F : Fx (gx D T s.heap.size 149) p s m #[Value.ref b] c code 4 R_law) (hX : va_X b L xs s s.heap) (hbl : b < s.heap.size) (hL : L ≤ 2560) (hi : i + 5 ≤ L) (hM : mainR (gx D T s.heap.size 149) μ S) (hD : modX (gx D T s.heap.size 149) μ S (fun _ => True)) (hA : aok S B) (hm : mok S) (hB : B < 800000) (hW : St (gx D T s.heap.size 149) s μ H locs) (hl : lv_has ls 4 [(0, .ref b), (1, .ref (xa (gx D T s.heap.size 149) 0)), (2, .ref (xa (gx D T s.heap.size 149) 136)), (3, .int (nI i))]) (kk : ∀ (S1 : AS) (μ1 : ME) (H1 : Heap) (locs1 : List Loc), mainR (gx D T s.heap.size 149) μ1 S1 → modX (gx D T s.heap.size 149) μ1 S1 (fun _ => True) → nxt S1 B → St (gx D T s.heap.size 149) s μ1 H1 locs1 → W p l e room_1 s m #[Value.ref b] below meth c H1 locs1 149 1628 Q (F0 m 1071 ls [])) : W p l e room_1 s m #[Value.ref b] below meth c H locs 149 1628 Q (F0 m 477 ls []) := by
  have hI := F.2.2
  have hx := F.1.1
  have hb := F.1.2.1
  have hts := F.1.2.2.2.2
  have m0 := hM.1
  obtain ⟨rh, nx, f1, fn, frd, ft, fo, fa, frw, fh, fu, fb, fz, fkp, g136, g137, g138, g139, g140, g141, g142, g143, g144, g145, g146, g147, g148, hg, hv, ht, hnx, hrw, hse, hkp, hTr⟩ := id hD
  have lt0 : 0 < xN (gx D T s.heap.size 149) := by show 0 < 149; decide
  have lt136 : 136 < xN (gx D T s.heap.size 149) := by show 136 < 149; decide
  refine lv_aload_n hx hb dL_law_477 rfl (lv_at hl 1 rfl) ?_
  refine lv_aload_n hx hb dL_law_478 rfl (lv_at hl 0 rfl) ?_
  refine lv_iload_n hx hb dL_law_479 rfl (lv_at hl 3 rfl) ?_
  refine lv_iconst (v := nI 1) hx hb dL_law_480 (by decide) ?_
  refine nv_add F dL_law_481 ?_
  refine sc_ld F hX hbl hW (by omega) hL dL_law_482 ?_
  refine cl_ie (cl_run (rest := []) F hW e_L_69 (k_falls hI l (show 136 ≤ 149 by decide) hM hA hB ((xs (i + 1)))) ⟨Nat.le_of_ble_eq_true rfl, Nat.le_of_ble_eq_true rfl⟩ lt0 m0 rfl rfl rfl hl (Nat.le_of_ble_eq_true rfl) dL_law_483 ⟨Nat.le_of_ble_eq_true rfl, Nat.le_of_ble_eq_true rfl⟩) hW (fun μ1 H locs q_1 hW => ?_)
  obtain ⟨hM1, ho1⟩ := q_1
  have hD1 := modX_off hD ho1
  have g136_1 := (ho1 136 (by omega)).trans g136
  have m0_1 := hM1.1
  refine lv_aload_n hx hb dL_law_486 rfl (lv_at hl 2 rfl) ?_
  refine lv_aload_n hx hb dL_law_487 rfl (lv_at hl 0 rfl) ?_
  refine lv_iload_n hx hb dL_law_488 rfl (lv_at hl 3 rfl) ?_
  refine lv_iconst (v := nI 1) hx hb dL_law_489 (by decide) ?_
  refine nv_add F dL_law_490 ?_
  refine sc_ld F hX hbl hW (by omega) hL dL_law_491 ?_
  refine cl_ie (cl_run (rest := [.int (r_falls S ((xs (i + 1))))]) F hW e_L_72 (x_falls hI l (show 149 ≤ 149 by decide) hD1 hA hm hB ((xs (i + 1)))) ⟨Nat.le_of_ble_eq_true rfl, Nat.le_of_ble_eq_true rfl⟩ lt136 g136_1 rfl rfl rfl hl (Nat.le_of_ble_eq_true rfl) dL_law_492 ⟨Nat.le_of_ble_eq_true rfl, Nat.le_of_ble_eq_true rfl⟩) hW (fun μ2 H locs q_2 hW => ?_)
  obtain ⟨hD2, ho2⟩ := q_2
  have hM2 := mainR_off hM1 ho2
  refine lv_icmp_eq (tgt := 1071) hx hb dL_law_495 (by decide) (fun c_3 => ?_) (fun c_3 => ?_)
  · skip
    exact kk S μ2 _ _ hM2 hD2 (n_same hA hm) hW
  · skip
    exact absurd rfl c_3

set_option maxHeartbeats 4000000 in
set_option maxRecDepth 100000 in
theorem lc_rings {p : Program} {l : Launch} {e : Env} {s : State} {m : MethodId} {below : List Frame} {meth : Method} {c : Code} {D : va_G} {T : Nat → ClassId} {b L i B : Nat} {xs : Nat → Int32} {S : AS} {μ : ME} {H : Heap} {locs : List Loc} {ls : Array Slot} {Q : State → Prop} (F : Fx (gx D T s.heap.size 149) p s m #[Value.ref b] c code 4 R_law) (hX : va_X b L xs s s.heap) (hbl : b < s.heap.size) (hL : L ≤ 2560) (hi : i + 5 ≤ L) (hM : mainR (gx D T s.heap.size 149) μ S) (hD : modX (gx D T s.heap.size 149) μ S (fun _ => True)) (hA : aok S B) (hm : mok S) (hB : B < 800000) (hW : St (gx D T s.heap.size 149) s μ H locs) (hl : lv_has ls 4 [(0, .ref b), (1, .ref (xa (gx D T s.heap.size 149) 0)), (2, .ref (xa (gx D T s.heap.size 149) 136)), (3, .int (nI i))]) (kk : ∀ (S1 : AS) (μ1 : ME) (H1 : Heap) (locs1 : List Loc), mainR (gx D T s.heap.size 149) μ1 S1 → modX (gx D T s.heap.size 149) μ1 S1 (fun _ => True) → nxt S1 B → St (gx D T s.heap.size 149) s μ1 H1 locs1 → W p l e room_1 s m #[Value.ref b] below meth c H1 locs1 149 1628 Q (F0 m 1071 ls [])) : W p l e room_1 s m #[Value.ref b] below meth c H locs 149 1628 Q (F0 m 500 ls []) := by
  have hI := F.2.2
  have hx := F.1.1
  have hb := F.1.2.1
  have hts := F.1.2.2.2.2
  have m0 := hM.1
  obtain ⟨rh, nx, f1, fn, frd, ft, fo, fa, frw, fh, fu, fb, fz, fkp, g136, g137, g138, g139, g140, g141, g142, g143, g144, g145, g146, g147, g148, hg, hv, ht, hnx, hrw, hse, hkp, hTr⟩ := id hD
  have lt0 : 0 < xN (gx D T s.heap.size 149) := by show 0 < 149; decide
  have lt136 : 136 < xN (gx D T s.heap.size 149) := by show 136 < 149; decide
  refine lv_aload_n hx hb dL_law_500 rfl (lv_at hl 1 rfl) ?_
  refine cl_ie (cl_run (rest := []) F hW e_L_73 (k_rings hI l (show 136 ≤ 149 by decide) hM hA hB ) ⟨Nat.le_of_ble_eq_true rfl, Nat.le_of_ble_eq_true rfl⟩ lt0 m0 rfl rfl rfl hl (Nat.le_of_ble_eq_true rfl) dL_law_501 ⟨Nat.le_of_ble_eq_true rfl, Nat.le_of_ble_eq_true rfl⟩) hW (fun μ1 H locs q_1 hW => ?_)
  obtain ⟨hM1, ho1⟩ := q_1
  have hD1 := modX_off hD ho1
  have g136_1 := (ho1 136 (by omega)).trans g136
  have m0_1 := hM1.1
  refine lv_aload_n hx hb dL_law_504 rfl (lv_at hl 2 rfl) ?_
  refine cl_ie (cl_run (rest := [.int (nI (ringL (AL S)))]) F hW e_L_76 (x_rings hI l (show 149 ≤ 149 by decide) hD1 hA hm hB ) ⟨Nat.le_of_ble_eq_true rfl, Nat.le_of_ble_eq_true rfl⟩ lt136 g136_1 rfl rfl rfl hl (Nat.le_of_ble_eq_true rfl) dL_law_505 ⟨Nat.le_of_ble_eq_true rfl, Nat.le_of_ble_eq_true rfl⟩) hW (fun μ2 H locs q_2 hW => ?_)
  obtain ⟨hD2, ho2⟩ := q_2
  have hM2 := mainR_off hM1 ho2
  refine lv_icmp_eq (tgt := 1071) hx hb dL_law_508 (by decide) (fun c_3 => ?_) (fun c_3 => ?_)
  · skip
    exact kk S μ2 _ _ hM2 hD2 (n_same hA hm) hW
  · skip
    exact absurd rfl c_3

set_option maxHeartbeats 4000000 in
set_option maxRecDepth 100000 in
theorem lc_orders {p : Program} {l : Launch} {e : Env} {s : State} {m : MethodId} {below : List Frame} {meth : Method} {c : Code} {D : va_G} {T : Nat → ClassId} {b L i B : Nat} {xs : Nat → Int32} {S : AS} {μ : ME} {H : Heap} {locs : List Loc} {ls : Array Slot} {Q : State → Prop} (F : Fx (gx D T s.heap.size 149) p s m #[Value.ref b] c code 4 R_law) (hX : va_X b L xs s s.heap) (hbl : b < s.heap.size) (hL : L ≤ 2560) (hi : i + 5 ≤ L) (hM : mainR (gx D T s.heap.size 149) μ S) (hD : modX (gx D T s.heap.size 149) μ S (fun _ => True)) (hA : aok S B) (hm : mok S) (hB : B < 800000) (hW : St (gx D T s.heap.size 149) s μ H locs) (hl : lv_has ls 4 [(0, .ref b), (1, .ref (xa (gx D T s.heap.size 149) 0)), (2, .ref (xa (gx D T s.heap.size 149) 136)), (3, .int (nI i))]) (kk : ∀ (S1 : AS) (μ1 : ME) (H1 : Heap) (locs1 : List Loc), mainR (gx D T s.heap.size 149) μ1 S1 → modX (gx D T s.heap.size 149) μ1 S1 (fun _ => True) → nxt S1 B → St (gx D T s.heap.size 149) s μ1 H1 locs1 → W p l e room_1 s m #[Value.ref b] below meth c H1 locs1 149 1628 Q (F0 m 1071 ls [])) : W p l e room_1 s m #[Value.ref b] below meth c H locs 149 1628 Q (F0 m 513 ls []) := by
  have hI := F.2.2
  have hx := F.1.1
  have hb := F.1.2.1
  have hts := F.1.2.2.2.2
  have m0 := hM.1
  obtain ⟨rh, nx, f1, fn, frd, ft, fo, fa, frw, fh, fu, fb, fz, fkp, g136, g137, g138, g139, g140, g141, g142, g143, g144, g145, g146, g147, g148, hg, hv, ht, hnx, hrw, hse, hkp, hTr⟩ := id hD
  have lt0 : 0 < xN (gx D T s.heap.size 149) := by show 0 < 149; decide
  have lt136 : 136 < xN (gx D T s.heap.size 149) := by show 136 < 149; decide
  refine lv_aload_n hx hb dL_law_513 rfl (lv_at hl 1 rfl) ?_
  refine lv_aload_n hx hb dL_law_514 rfl (lv_at hl 0 rfl) ?_
  refine lv_iload_n hx hb dL_law_515 rfl (lv_at hl 3 rfl) ?_
  refine lv_iconst (v := nI 1) hx hb dL_law_516 (by decide) ?_
  refine nv_add F dL_law_517 ?_
  refine sc_ld F hX hbl hW (by omega) hL dL_law_518 ?_
  refine lv_aload_n hx hb dL_law_519 rfl (lv_at hl 0 rfl) ?_
  refine lv_iload_n hx hb dL_law_520 rfl (lv_at hl 3 rfl) ?_
  refine lv_iconst (v := nI 2) hx hb dL_law_521 (by decide) ?_
  refine nv_add F dL_law_522 ?_
  refine sc_ld F hX hbl hW (by omega) hL dL_law_523 ?_
  refine lv_i2l hx hb dL_law_524 rfl ?_
  refine lv_bipush (v := nI 32) hx hb dL_law_525 (by decide) ?_
  refine lv_lshl hx hb dL_law_527 rfl ?_
  refine lv_aload_n hx hb dL_law_528 rfl (lv_at hl 0 rfl) ?_
  refine lv_iload_n hx hb dL_law_529 rfl (lv_at hl 3 rfl) ?_
  refine lv_iconst (v := nI 3) hx hb dL_law_530 (by decide) ?_
  refine nv_add F dL_law_531 ?_
  refine sc_ld F hX hbl hW (by omega) hL dL_law_532 ?_
  refine lv_i2l hx hb dL_law_533 rfl ?_
  refine lv_ldc2 (v := lN 4294967295) hx hb F.1.2.2.2.1 (hts _ tw_944) dL_law_534 ?_
  refine lv_land hx hb dL_law_537 ?_
  refine lv_lor hx hb dL_law_538 ?_
  refine lv_aload_n hx hb dL_law_539 rfl (lv_at hl 0 rfl) ?_
  refine lv_iload_n hx hb dL_law_540 rfl (lv_at hl 3 rfl) ?_
  refine lv_iconst (v := nI 4) hx hb dL_law_541 (by decide) ?_
  refine nv_add F dL_law_542 ?_
  refine sc_ld F hX hbl hW (by omega) hL dL_law_543 ?_
  refine cl_ie (cl_run (rest := []) F hW e_L_79 (k_orders hI l (show 136 ≤ 149 by decide) hM hA hB ((xs (i + 1))) ((((((((xs (i + 2))).toInt64)) <<< (((nI 32)).toInt64 &&& 63))) ||| ((((((xs (i + 3))).toInt64)) &&& ((lN 4294967295)))))) ((xs (i + 4)))) ⟨Nat.le_of_ble_eq_true rfl, Nat.le_of_ble_eq_true rfl⟩ lt0 m0 rfl rfl rfl hl (Nat.le_of_ble_eq_true rfl) dL_law_544 ⟨Nat.le_of_ble_eq_true rfl, Nat.le_of_ble_eq_true rfl⟩) hW (fun μ1 H locs q_1 hW => ?_)
  obtain ⟨hM1, ho1⟩ := q_1
  have hD1 := modX_off hD ho1
  have g136_1 := (ho1 136 (by omega)).trans g136
  have m0_1 := hM1.1
  refine lv_aload_n hx hb dL_law_547 rfl (lv_at hl 2 rfl) ?_
  refine lv_aload_n hx hb dL_law_548 rfl (lv_at hl 0 rfl) ?_
  refine lv_iload_n hx hb dL_law_549 rfl (lv_at hl 3 rfl) ?_
  refine lv_iconst (v := nI 1) hx hb dL_law_550 (by decide) ?_
  refine nv_add F dL_law_551 ?_
  refine sc_ld F hX hbl hW (by omega) hL dL_law_552 ?_
  refine lv_aload_n hx hb dL_law_553 rfl (lv_at hl 0 rfl) ?_
  refine lv_iload_n hx hb dL_law_554 rfl (lv_at hl 3 rfl) ?_
  refine lv_iconst (v := nI 2) hx hb dL_law_555 (by decide) ?_
  refine nv_add F dL_law_556 ?_
  refine sc_ld F hX hbl hW (by omega) hL dL_law_557 ?_
  refine lv_i2l hx hb dL_law_558 rfl ?_
  refine lv_bipush (v := nI 32) hx hb dL_law_559 (by decide) ?_
  refine lv_lshl hx hb dL_law_561 rfl ?_
  refine lv_aload_n hx hb dL_law_562 rfl (lv_at hl 0 rfl) ?_
  refine lv_iload_n hx hb dL_law_563 rfl (lv_at hl 3 rfl) ?_
  refine lv_iconst (v := nI 3) hx hb dL_law_564 (by decide) ?_
  refine nv_add F dL_law_565 ?_
  refine sc_ld F hX hbl hW (by omega) hL dL_law_566 ?_
  refine lv_i2l hx hb dL_law_567 rfl ?_
  refine lv_ldc2 (v := lN 4294967295) hx hb F.1.2.2.2.1 (hts _ tw_944) dL_law_568 ?_
  refine lv_land hx hb dL_law_571 ?_
  refine lv_lor hx hb dL_law_572 ?_
  refine lv_aload_n hx hb dL_law_573 rfl (lv_at hl 0 rfl) ?_
  refine lv_iload_n hx hb dL_law_574 rfl (lv_at hl 3 rfl) ?_
  refine lv_iconst (v := nI 4) hx hb dL_law_575 (by decide) ?_
  refine nv_add F dL_law_576 ?_
  refine sc_ld F hX hbl hW (by omega) hL dL_law_577 ?_
  refine cl_ie (cl_run (rest := [.int (r_orders S ((xs (i + 1))) ((((((((xs (i + 2))).toInt64)) <<< (((nI 32)).toInt64 &&& 63))) ||| ((((((xs (i + 3))).toInt64)) &&& ((lN 4294967295)))))) ((xs (i + 4))))]) F hW e_L_83 (x_orders hI l (show 149 ≤ 149 by decide) hD1 hA hm hB ((xs (i + 1))) ((((((((xs (i + 2))).toInt64)) <<< (((nI 32)).toInt64 &&& 63))) ||| ((((((xs (i + 3))).toInt64)) &&& ((lN 4294967295)))))) ((xs (i + 4)))) ⟨Nat.le_of_ble_eq_true rfl, Nat.le_of_ble_eq_true rfl⟩ lt136 g136_1 rfl rfl rfl hl (Nat.le_of_ble_eq_true rfl) dL_law_578 ⟨Nat.le_of_ble_eq_true rfl, Nat.le_of_ble_eq_true rfl⟩) hW (fun μ2 H locs q_2 hW => ?_)
  obtain ⟨hD2, ho2⟩ := q_2
  have hM2 := mainR_off hM1 ho2
  refine lv_icmp_eq (tgt := 1071) hx hb dL_law_581 (by decide) (fun c_3 => ?_) (fun c_3 => ?_)
  · skip
    exact kk S μ2 _ _ hM2 hD2 (n_same hA hm) hW
  · skip
    exact absurd rfl c_3

set_option maxHeartbeats 4000000 in
set_option maxRecDepth 100000 in
theorem lc_piano {p : Program} {l : Launch} {e : Env} {s : State} {m : MethodId} {below : List Frame} {meth : Method} {c : Code} {D : va_G} {T : Nat → ClassId} {b L i B : Nat} {xs : Nat → Int32} {S : AS} {μ : ME} {H : Heap} {locs : List Loc} {ls : Array Slot} {Q : State → Prop} (F : Fx (gx D T s.heap.size 149) p s m #[Value.ref b] c code 4 R_law) (hX : va_X b L xs s s.heap) (hbl : b < s.heap.size) (hL : L ≤ 2560) (hi : i + 5 ≤ L) (hM : mainR (gx D T s.heap.size 149) μ S) (hD : modX (gx D T s.heap.size 149) μ S (fun _ => True)) (hA : aok S B) (hm : mok S) (hB : B < 800000) (hW : St (gx D T s.heap.size 149) s μ H locs) (hl : lv_has ls 4 [(0, .ref b), (1, .ref (xa (gx D T s.heap.size 149) 0)), (2, .ref (xa (gx D T s.heap.size 149) 136)), (3, .int (nI i))]) (kk : ∀ (S1 : AS) (μ1 : ME) (H1 : Heap) (locs1 : List Loc), mainR (gx D T s.heap.size 149) μ1 S1 → modX (gx D T s.heap.size 149) μ1 S1 (fun _ => True) → nxt S1 B → St (gx D T s.heap.size 149) s μ1 H1 locs1 → W p l e room_1 s m #[Value.ref b] below meth c H1 locs1 149 1628 Q (F0 m 1071 ls [])) : W p l e room_1 s m #[Value.ref b] below meth c H locs 149 1628 Q (F0 m 586 ls []) := by
  have hI := F.2.2
  have hx := F.1.1
  have hb := F.1.2.1
  have hts := F.1.2.2.2.2
  have m0 := hM.1
  obtain ⟨rh, nx, f1, fn, frd, ft, fo, fa, frw, fh, fu, fb, fz, fkp, g136, g137, g138, g139, g140, g141, g142, g143, g144, g145, g146, g147, g148, hg, hv, ht, hnx, hrw, hse, hkp, hTr⟩ := id hD
  have lt0 : 0 < xN (gx D T s.heap.size 149) := by show 0 < 149; decide
  have lt136 : 136 < xN (gx D T s.heap.size 149) := by show 136 < 149; decide
  refine lv_aload_n hx hb dL_law_586 rfl (lv_at hl 1 rfl) ?_
  refine lv_aload_n hx hb dL_law_587 rfl (lv_at hl 0 rfl) ?_
  refine lv_iload_n hx hb dL_law_588 rfl (lv_at hl 3 rfl) ?_
  refine lv_iconst (v := nI 1) hx hb dL_law_589 (by decide) ?_
  refine nv_add F dL_law_590 ?_
  refine sc_ld F hX hbl hW (by omega) hL dL_law_591 ?_
  refine cl_ie (cl_run (rest := []) F hW e_L_84 (k_piano hI l (show 136 ≤ 149 by decide) hM hA hB ((xs (i + 1)))) ⟨Nat.le_of_ble_eq_true rfl, Nat.le_of_ble_eq_true rfl⟩ lt0 m0 rfl rfl rfl hl (Nat.le_of_ble_eq_true rfl) dL_law_592 ⟨Nat.le_of_ble_eq_true rfl, Nat.le_of_ble_eq_true rfl⟩) hW (fun μ1 H locs q_1 hW => ?_)
  obtain ⟨hM1, ho1⟩ := q_1
  have hD1 := modX_off hD ho1
  have g136_1 := (ho1 136 (by omega)).trans g136
  have m0_1 := hM1.1
  refine lv_aload_n hx hb dL_law_595 rfl (lv_at hl 2 rfl) ?_
  refine lv_aload_n hx hb dL_law_596 rfl (lv_at hl 0 rfl) ?_
  refine lv_iload_n hx hb dL_law_597 rfl (lv_at hl 3 rfl) ?_
  refine lv_iconst (v := nI 1) hx hb dL_law_598 (by decide) ?_
  refine nv_add F dL_law_599 ?_
  refine sc_ld F hX hbl hW (by omega) hL dL_law_600 ?_
  refine cl_ie (cl_run (rest := [.int (r_piano S ((xs (i + 1))))]) F hW e_L_87 (x_piano hI l (show 149 ≤ 149 by decide) hD1 hA hm hB ((xs (i + 1)))) ⟨Nat.le_of_ble_eq_true rfl, Nat.le_of_ble_eq_true rfl⟩ lt136 g136_1 rfl rfl rfl hl (Nat.le_of_ble_eq_true rfl) dL_law_601 ⟨Nat.le_of_ble_eq_true rfl, Nat.le_of_ble_eq_true rfl⟩) hW (fun μ2 H locs q_2 hW => ?_)
  obtain ⟨hD2, ho2⟩ := q_2
  have hM2 := mainR_off hM1 ho2
  refine lv_icmp_eq (tgt := 1071) hx hb dL_law_604 (by decide) (fun c_3 => ?_) (fun c_3 => ?_)
  · skip
    exact kk S μ2 _ _ hM2 hD2 (n_same hA hm) hW
  · skip
    exact absurd rfl c_3

set_option maxHeartbeats 4000000 in
set_option maxRecDepth 100000 in
theorem lc_sacks {p : Program} {l : Launch} {e : Env} {s : State} {m : MethodId} {below : List Frame} {meth : Method} {c : Code} {D : va_G} {T : Nat → ClassId} {b L i B : Nat} {xs : Nat → Int32} {S : AS} {μ : ME} {H : Heap} {locs : List Loc} {ls : Array Slot} {Q : State → Prop} (F : Fx (gx D T s.heap.size 149) p s m #[Value.ref b] c code 4 R_law) (hX : va_X b L xs s s.heap) (hbl : b < s.heap.size) (hL : L ≤ 2560) (hi : i + 5 ≤ L) (hM : mainR (gx D T s.heap.size 149) μ S) (hD : modX (gx D T s.heap.size 149) μ S (fun _ => True)) (hA : aok S B) (hm : mok S) (hB : B < 800000) (hW : St (gx D T s.heap.size 149) s μ H locs) (hl : lv_has ls 4 [(0, .ref b), (1, .ref (xa (gx D T s.heap.size 149) 0)), (2, .ref (xa (gx D T s.heap.size 149) 136)), (3, .int (nI i))]) (kk : ∀ (S1 : AS) (μ1 : ME) (H1 : Heap) (locs1 : List Loc), mainR (gx D T s.heap.size 149) μ1 S1 → modX (gx D T s.heap.size 149) μ1 S1 (fun _ => True) → nxt S1 B → St (gx D T s.heap.size 149) s μ1 H1 locs1 → W p l e room_1 s m #[Value.ref b] below meth c H1 locs1 149 1628 Q (F0 m 1071 ls [])) : W p l e room_1 s m #[Value.ref b] below meth c H locs 149 1628 Q (F0 m 609 ls []) := by
  have hI := F.2.2
  have hx := F.1.1
  have hb := F.1.2.1
  have hts := F.1.2.2.2.2
  have m0 := hM.1
  obtain ⟨rh, nx, f1, fn, frd, ft, fo, fa, frw, fh, fu, fb, fz, fkp, g136, g137, g138, g139, g140, g141, g142, g143, g144, g145, g146, g147, g148, hg, hv, ht, hnx, hrw, hse, hkp, hTr⟩ := id hD
  have lt0 : 0 < xN (gx D T s.heap.size 149) := by show 0 < 149; decide
  have lt136 : 136 < xN (gx D T s.heap.size 149) := by show 136 < 149; decide
  refine lv_aload_n hx hb dL_law_609 rfl (lv_at hl 1 rfl) ?_
  refine lv_aload_n hx hb dL_law_610 rfl (lv_at hl 0 rfl) ?_
  refine lv_iload_n hx hb dL_law_611 rfl (lv_at hl 3 rfl) ?_
  refine lv_iconst (v := nI 1) hx hb dL_law_612 (by decide) ?_
  refine nv_add F dL_law_613 ?_
  refine sc_ld F hX hbl hW (by omega) hL dL_law_614 ?_
  refine cl_ie (cl_run (rest := []) F hW e_L_88 (k_sacks hI l (show 136 ≤ 149 by decide) hM hA hB ((xs (i + 1)))) ⟨Nat.le_of_ble_eq_true rfl, Nat.le_of_ble_eq_true rfl⟩ lt0 m0 rfl rfl rfl hl (Nat.le_of_ble_eq_true rfl) dL_law_615 ⟨Nat.le_of_ble_eq_true rfl, Nat.le_of_ble_eq_true rfl⟩) hW (fun μ1 H locs q_1 hW => ?_)
  obtain ⟨hM1, ho1⟩ := q_1
  have hD1 := modX_off hD ho1
  have g136_1 := (ho1 136 (by omega)).trans g136
  have m0_1 := hM1.1
  refine lv_aload_n hx hb dL_law_618 rfl (lv_at hl 2 rfl) ?_
  refine lv_aload_n hx hb dL_law_619 rfl (lv_at hl 0 rfl) ?_
  refine lv_iload_n hx hb dL_law_620 rfl (lv_at hl 3 rfl) ?_
  refine lv_iconst (v := nI 1) hx hb dL_law_621 (by decide) ?_
  refine nv_add F dL_law_622 ?_
  refine sc_ld F hX hbl hW (by omega) hL dL_law_623 ?_
  refine cl_ie (cl_run (rest := [.int (r_sacks S ((xs (i + 1))))]) F hW e_L_91 (x_sacks hI l (show 149 ≤ 149 by decide) hD1 hA hm hB ((xs (i + 1)))) ⟨Nat.le_of_ble_eq_true rfl, Nat.le_of_ble_eq_true rfl⟩ lt136 g136_1 rfl rfl rfl hl (Nat.le_of_ble_eq_true rfl) dL_law_624 ⟨Nat.le_of_ble_eq_true rfl, Nat.le_of_ble_eq_true rfl⟩) hW (fun μ2 H locs q_2 hW => ?_)
  obtain ⟨hD2, ho2⟩ := q_2
  have hM2 := mainR_off hM1 ho2
  refine lv_icmp_eq (tgt := 1071) hx hb dL_law_627 (by decide) (fun c_3 => ?_) (fun c_3 => ?_)
  · skip
    exact kk S μ2 _ _ hM2 hD2 (n_same hA hm) hW
  · skip
    exact absurd rfl c_3

set_option maxHeartbeats 4000000 in
set_option maxRecDepth 100000 in
theorem lc_judge {p : Program} {l : Launch} {e : Env} {s : State} {m : MethodId} {below : List Frame} {meth : Method} {c : Code} {D : va_G} {T : Nat → ClassId} {b L i B : Nat} {xs : Nat → Int32} {S : AS} {μ : ME} {H : Heap} {locs : List Loc} {ls : Array Slot} {Q : State → Prop} (F : Fx (gx D T s.heap.size 149) p s m #[Value.ref b] c code 4 R_law) (hX : va_X b L xs s s.heap) (hbl : b < s.heap.size) (hL : L ≤ 2560) (hi : i + 5 ≤ L) (hM : mainR (gx D T s.heap.size 149) μ S) (hD : modX (gx D T s.heap.size 149) μ S (fun _ => True)) (hA : aok S B) (hm : mok S) (hB : B < 800000) (hW : St (gx D T s.heap.size 149) s μ H locs) (hl : lv_has ls 4 [(0, .ref b), (1, .ref (xa (gx D T s.heap.size 149) 0)), (2, .ref (xa (gx D T s.heap.size 149) 136)), (3, .int (nI i))]) (kk : ∀ (S1 : AS) (μ1 : ME) (H1 : Heap) (locs1 : List Loc), mainR (gx D T s.heap.size 149) μ1 S1 → modX (gx D T s.heap.size 149) μ1 S1 (fun _ => True) → nxt S1 B → St (gx D T s.heap.size 149) s μ1 H1 locs1 → W p l e room_1 s m #[Value.ref b] below meth c H1 locs1 149 1628 Q (F0 m 1071 ls [])) : W p l e room_1 s m #[Value.ref b] below meth c H locs 149 1628 Q (F0 m 632 ls []) := by
  have hI := F.2.2
  have hx := F.1.1
  have hb := F.1.2.1
  have hts := F.1.2.2.2.2
  have m0 := hM.1
  obtain ⟨rh, nx, f1, fn, frd, ft, fo, fa, frw, fh, fu, fb, fz, fkp, g136, g137, g138, g139, g140, g141, g142, g143, g144, g145, g146, g147, g148, hg, hv, ht, hnx, hrw, hse, hkp, hTr⟩ := id hD
  have lt0 : 0 < xN (gx D T s.heap.size 149) := by show 0 < 149; decide
  have lt136 : 136 < xN (gx D T s.heap.size 149) := by show 136 < 149; decide
  refine lv_aload_n hx hb dL_law_632 rfl (lv_at hl 1 rfl) ?_
  refine lv_aload_n hx hb dL_law_633 rfl (lv_at hl 0 rfl) ?_
  refine lv_iload_n hx hb dL_law_634 rfl (lv_at hl 3 rfl) ?_
  refine lv_iconst (v := nI 1) hx hb dL_law_635 (by decide) ?_
  refine nv_add F dL_law_636 ?_
  refine sc_ld F hX hbl hW (by omega) hL dL_law_637 ?_
  refine lv_aload_n hx hb dL_law_638 rfl (lv_at hl 0 rfl) ?_
  refine lv_iload_n hx hb dL_law_639 rfl (lv_at hl 3 rfl) ?_
  refine lv_iconst (v := nI 2) hx hb dL_law_640 (by decide) ?_
  refine nv_add F dL_law_641 ?_
  refine sc_ld F hX hbl hW (by omega) hL dL_law_642 ?_
  refine lv_i2l hx hb dL_law_643 rfl ?_
  refine lv_bipush (v := nI 32) hx hb dL_law_644 (by decide) ?_
  refine lv_lshl hx hb dL_law_646 rfl ?_
  refine lv_aload_n hx hb dL_law_647 rfl (lv_at hl 0 rfl) ?_
  refine lv_iload_n hx hb dL_law_648 rfl (lv_at hl 3 rfl) ?_
  refine lv_iconst (v := nI 3) hx hb dL_law_649 (by decide) ?_
  refine nv_add F dL_law_650 ?_
  refine sc_ld F hX hbl hW (by omega) hL dL_law_651 ?_
  refine lv_i2l hx hb dL_law_652 rfl ?_
  refine lv_ldc2 (v := lN 4294967295) hx hb F.1.2.2.2.1 (hts _ tw_944) dL_law_653 ?_
  refine lv_land hx hb dL_law_656 ?_
  refine lv_lor hx hb dL_law_657 ?_
  refine cl_ie (cl_run (rest := []) F hW e_L_92 (k_judge hI l (show 136 ≤ 149 by decide) hM hA hB ((xs (i + 1))) ((((((((xs (i + 2))).toInt64)) <<< (((nI 32)).toInt64 &&& 63))) ||| ((((((xs (i + 3))).toInt64)) &&& ((lN 4294967295))))))) ⟨Nat.le_of_ble_eq_true rfl, Nat.le_of_ble_eq_true rfl⟩ lt0 m0 rfl rfl rfl hl (Nat.le_of_ble_eq_true rfl) dL_law_658 ⟨Nat.le_of_ble_eq_true rfl, Nat.le_of_ble_eq_true rfl⟩) hW (fun μ1 H locs q_1 hW => ?_)
  obtain ⟨hM1, ho1⟩ := q_1
  have hD1 := modX_off hD ho1
  have g136_1 := (ho1 136 (by omega)).trans g136
  have m0_1 := hM1.1
  refine lv_aload_n hx hb dL_law_661 rfl (lv_at hl 2 rfl) ?_
  refine lv_aload_n hx hb dL_law_662 rfl (lv_at hl 0 rfl) ?_
  refine lv_iload_n hx hb dL_law_663 rfl (lv_at hl 3 rfl) ?_
  refine lv_iconst (v := nI 1) hx hb dL_law_664 (by decide) ?_
  refine nv_add F dL_law_665 ?_
  refine sc_ld F hX hbl hW (by omega) hL dL_law_666 ?_
  refine lv_aload_n hx hb dL_law_667 rfl (lv_at hl 0 rfl) ?_
  refine lv_iload_n hx hb dL_law_668 rfl (lv_at hl 3 rfl) ?_
  refine lv_iconst (v := nI 2) hx hb dL_law_669 (by decide) ?_
  refine nv_add F dL_law_670 ?_
  refine sc_ld F hX hbl hW (by omega) hL dL_law_671 ?_
  refine lv_i2l hx hb dL_law_672 rfl ?_
  refine lv_bipush (v := nI 32) hx hb dL_law_673 (by decide) ?_
  refine lv_lshl hx hb dL_law_675 rfl ?_
  refine lv_aload_n hx hb dL_law_676 rfl (lv_at hl 0 rfl) ?_
  refine lv_iload_n hx hb dL_law_677 rfl (lv_at hl 3 rfl) ?_
  refine lv_iconst (v := nI 3) hx hb dL_law_678 (by decide) ?_
  refine nv_add F dL_law_679 ?_
  refine sc_ld F hX hbl hW (by omega) hL dL_law_680 ?_
  refine lv_i2l hx hb dL_law_681 rfl ?_
  refine lv_ldc2 (v := lN 4294967295) hx hb F.1.2.2.2.1 (hts _ tw_944) dL_law_682 ?_
  refine lv_land hx hb dL_law_685 ?_
  refine lv_lor hx hb dL_law_686 ?_
  refine cl_ie (cl_run (rest := [.int (r_judge S ((xs (i + 1))) ((((((((xs (i + 2))).toInt64)) <<< (((nI 32)).toInt64 &&& 63))) ||| ((((((xs (i + 3))).toInt64)) &&& ((lN 4294967295)))))))]) F hW e_L_96 (x_judge hI l (show 149 ≤ 149 by decide) hD1 hA hm hB ((xs (i + 1))) ((((((((xs (i + 2))).toInt64)) <<< (((nI 32)).toInt64 &&& 63))) ||| ((((((xs (i + 3))).toInt64)) &&& ((lN 4294967295))))))) ⟨Nat.le_of_ble_eq_true rfl, Nat.le_of_ble_eq_true rfl⟩ lt136 g136_1 rfl rfl rfl hl (Nat.le_of_ble_eq_true rfl) dL_law_687 ⟨Nat.le_of_ble_eq_true rfl, Nat.le_of_ble_eq_true rfl⟩) hW (fun μ2 H locs q_2 hW => ?_)
  obtain ⟨hD2, ho2⟩ := q_2
  have hM2 := mainR_off hM1 ho2
  refine lv_icmp_eq (tgt := 1071) hx hb dL_law_690 (by decide) (fun c_3 => ?_) (fun c_3 => ?_)
  · skip
    exact kk S μ2 _ _ hM2 hD2 (n_same hA hm) hW
  · skip
    exact absurd rfl c_3

set_option maxHeartbeats 4000000 in
set_option maxRecDepth 100000 in
theorem lc_see {p : Program} {l : Launch} {e : Env} {s : State} {m : MethodId} {below : List Frame} {meth : Method} {c : Code} {D : va_G} {T : Nat → ClassId} {b L i B : Nat} {xs : Nat → Int32} {S : AS} {μ : ME} {H : Heap} {locs : List Loc} {ls : Array Slot} {Q : State → Prop} (F : Fx (gx D T s.heap.size 149) p s m #[Value.ref b] c code 4 R_law) (hX : va_X b L xs s s.heap) (hbl : b < s.heap.size) (hL : L ≤ 2560) (hi : i + 5 ≤ L) (hM : mainR (gx D T s.heap.size 149) μ S) (hD : modX (gx D T s.heap.size 149) μ S (fun _ => True)) (hA : aok S B) (hm : mok S) (hB : B < 800000) (hW : St (gx D T s.heap.size 149) s μ H locs) (hl : lv_has ls 4 [(0, .ref b), (1, .ref (xa (gx D T s.heap.size 149) 0)), (2, .ref (xa (gx D T s.heap.size 149) 136)), (3, .int (nI i))]) (kk : ∀ (S1 : AS) (μ1 : ME) (H1 : Heap) (locs1 : List Loc), mainR (gx D T s.heap.size 149) μ1 S1 → modX (gx D T s.heap.size 149) μ1 S1 (fun _ => True) → nxt S1 B → St (gx D T s.heap.size 149) s μ1 H1 locs1 → W p l e room_1 s m #[Value.ref b] below meth c H1 locs1 149 1628 Q (F0 m 1071 ls [])) : W p l e room_1 s m #[Value.ref b] below meth c H locs 149 1628 Q (F0 m 695 ls []) := by
  have hI := F.2.2
  have hx := F.1.1
  have hb := F.1.2.1
  have hts := F.1.2.2.2.2
  have m0 := hM.1
  obtain ⟨rh, nx, f1, fn, frd, ft, fo, fa, frw, fh, fu, fb, fz, fkp, g136, g137, g138, g139, g140, g141, g142, g143, g144, g145, g146, g147, g148, hg, hv, ht, hnx, hrw, hse, hkp, hTr⟩ := id hD
  have lt0 : 0 < xN (gx D T s.heap.size 149) := by show 0 < 149; decide
  have lt136 : 136 < xN (gx D T s.heap.size 149) := by show 136 < 149; decide
  refine lv_aload_n hx hb dL_law_695 rfl (lv_at hl 1 rfl) ?_
  refine lv_aload_n hx hb dL_law_696 rfl (lv_at hl 0 rfl) ?_
  refine lv_iload_n hx hb dL_law_697 rfl (lv_at hl 3 rfl) ?_
  refine lv_iconst (v := nI 1) hx hb dL_law_698 (by decide) ?_
  refine nv_add F dL_law_699 ?_
  refine sc_ld F hX hbl hW (by omega) hL dL_law_700 ?_
  refine lv_aload_n hx hb dL_law_701 rfl (lv_at hl 0 rfl) ?_
  refine lv_iload_n hx hb dL_law_702 rfl (lv_at hl 3 rfl) ?_
  refine lv_iconst (v := nI 2) hx hb dL_law_703 (by decide) ?_
  refine nv_add F dL_law_704 ?_
  refine sc_ld F hX hbl hW (by omega) hL dL_law_705 ?_
  refine lv_aload_n hx hb dL_law_706 rfl (lv_at hl 0 rfl) ?_
  refine lv_iload_n hx hb dL_law_707 rfl (lv_at hl 3 rfl) ?_
  refine lv_iconst (v := nI 3) hx hb dL_law_708 (by decide) ?_
  refine nv_add F dL_law_709 ?_
  refine sc_ld F hX hbl hW (by omega) hL dL_law_710 ?_
  refine cl_ie (cl_run (rest := []) F hW e_L_97 (k_see hI l (show 136 ≤ 149 by decide) hM hA hB ((xs (i + 1))) ((xs (i + 2))) ((xs (i + 3)))) ⟨Nat.le_of_ble_eq_true rfl, Nat.le_of_ble_eq_true rfl⟩ lt0 m0 rfl rfl rfl hl (Nat.le_of_ble_eq_true rfl) dL_law_711 ⟨Nat.le_of_ble_eq_true rfl, Nat.le_of_ble_eq_true rfl⟩) hW (fun μ1 H locs q_1 hW => ?_)
  obtain ⟨hM1, ho1⟩ := q_1
  have hD1 := modX_off hD ho1
  have g136_1 := (ho1 136 (by omega)).trans g136
  have m0_1 := hM1.1
  refine lv_aload_n hx hb dL_law_714 rfl (lv_at hl 2 rfl) ?_
  refine lv_aload_n hx hb dL_law_715 rfl (lv_at hl 0 rfl) ?_
  refine lv_iload_n hx hb dL_law_716 rfl (lv_at hl 3 rfl) ?_
  refine lv_iconst (v := nI 1) hx hb dL_law_717 (by decide) ?_
  refine nv_add F dL_law_718 ?_
  refine sc_ld F hX hbl hW (by omega) hL dL_law_719 ?_
  refine lv_aload_n hx hb dL_law_720 rfl (lv_at hl 0 rfl) ?_
  refine lv_iload_n hx hb dL_law_721 rfl (lv_at hl 3 rfl) ?_
  refine lv_iconst (v := nI 2) hx hb dL_law_722 (by decide) ?_
  refine nv_add F dL_law_723 ?_
  refine sc_ld F hX hbl hW (by omega) hL dL_law_724 ?_
  refine lv_aload_n hx hb dL_law_725 rfl (lv_at hl 0 rfl) ?_
  refine lv_iload_n hx hb dL_law_726 rfl (lv_at hl 3 rfl) ?_
  refine lv_iconst (v := nI 3) hx hb dL_law_727 (by decide) ?_
  refine nv_add F dL_law_728 ?_
  refine sc_ld F hX hbl hW (by omega) hL dL_law_729 ?_
  refine cl_ie (cl_run (rest := [.int (r_see S ((xs (i + 1))) ((xs (i + 2))) ((xs (i + 3))))]) F hW e_L_100 (x_see hI l (show 149 ≤ 149 by decide) hD1 hA hm hB ((xs (i + 1))) ((xs (i + 2))) ((xs (i + 3)))) ⟨Nat.le_of_ble_eq_true rfl, Nat.le_of_ble_eq_true rfl⟩ lt136 g136_1 rfl rfl rfl hl (Nat.le_of_ble_eq_true rfl) dL_law_730 ⟨Nat.le_of_ble_eq_true rfl, Nat.le_of_ble_eq_true rfl⟩) hW (fun μ2 H locs q_2 hW => ?_)
  obtain ⟨hD2, ho2⟩ := q_2
  have hM2 := mainR_off hM1 ho2
  refine lv_icmp_eq (tgt := 1071) hx hb dL_law_733 (by decide) (fun c_3 => ?_) (fun c_3 => ?_)
  · skip
    exact kk (s_see S ((xs (i + 1))) ((xs (i + 2))) ((xs (i + 3)))) μ2 _ _ hM2 hD2 (n_see hA hm _ _ _) hW
  · skip
    exact absurd rfl c_3

set_option maxHeartbeats 4000000 in
set_option maxRecDepth 100000 in
theorem lc_unsee {p : Program} {l : Launch} {e : Env} {s : State} {m : MethodId} {below : List Frame} {meth : Method} {c : Code} {D : va_G} {T : Nat → ClassId} {b L i B : Nat} {xs : Nat → Int32} {S : AS} {μ : ME} {H : Heap} {locs : List Loc} {ls : Array Slot} {Q : State → Prop} (F : Fx (gx D T s.heap.size 149) p s m #[Value.ref b] c code 4 R_law) (hX : va_X b L xs s s.heap) (hbl : b < s.heap.size) (hL : L ≤ 2560) (hi : i + 5 ≤ L) (hM : mainR (gx D T s.heap.size 149) μ S) (hD : modX (gx D T s.heap.size 149) μ S (fun _ => True)) (hA : aok S B) (hm : mok S) (hB : B < 800000) (hW : St (gx D T s.heap.size 149) s μ H locs) (hl : lv_has ls 4 [(0, .ref b), (1, .ref (xa (gx D T s.heap.size 149) 0)), (2, .ref (xa (gx D T s.heap.size 149) 136)), (3, .int (nI i))]) (kk : ∀ (S1 : AS) (μ1 : ME) (H1 : Heap) (locs1 : List Loc), mainR (gx D T s.heap.size 149) μ1 S1 → modX (gx D T s.heap.size 149) μ1 S1 (fun _ => True) → nxt S1 B → St (gx D T s.heap.size 149) s μ1 H1 locs1 → W p l e room_1 s m #[Value.ref b] below meth c H1 locs1 149 1628 Q (F0 m 1071 ls [])) : W p l e room_1 s m #[Value.ref b] below meth c H locs 149 1628 Q (F0 m 738 ls []) := by
  have hI := F.2.2
  have hx := F.1.1
  have hb := F.1.2.1
  have hts := F.1.2.2.2.2
  have m0 := hM.1
  obtain ⟨rh, nx, f1, fn, frd, ft, fo, fa, frw, fh, fu, fb, fz, fkp, g136, g137, g138, g139, g140, g141, g142, g143, g144, g145, g146, g147, g148, hg, hv, ht, hnx, hrw, hse, hkp, hTr⟩ := id hD
  have lt0 : 0 < xN (gx D T s.heap.size 149) := by show 0 < 149; decide
  have lt136 : 136 < xN (gx D T s.heap.size 149) := by show 136 < 149; decide
  refine lv_aload_n hx hb dL_law_738 rfl (lv_at hl 1 rfl) ?_
  refine cl_ie (cl_run (rest := []) F hW e_L_101 (k_unsee hI l (show 136 ≤ 149 by decide) hM hA hB ) ⟨Nat.le_of_ble_eq_true rfl, Nat.le_of_ble_eq_true rfl⟩ lt0 m0 rfl rfl rfl hl (Nat.le_of_ble_eq_true rfl) dL_law_739 ⟨Nat.le_of_ble_eq_true rfl, Nat.le_of_ble_eq_true rfl⟩) hW (fun μ1 H locs q_1 hW => ?_)
  obtain ⟨hM1, ho1⟩ := q_1
  have hD1 := modX_off hD ho1
  have g136_1 := (ho1 136 (by omega)).trans g136
  have m0_1 := hM1.1
  refine lv_aload_n hx hb dL_law_742 rfl (lv_at hl 2 rfl) ?_
  refine cl_ie (cl_run (rest := [.int (nI (Ay S))]) F hW e_L_104 (x_unsee hI l (show 149 ≤ 149 by decide) hD1 hA hm hB ) ⟨Nat.le_of_ble_eq_true rfl, Nat.le_of_ble_eq_true rfl⟩ lt136 g136_1 rfl rfl rfl hl (Nat.le_of_ble_eq_true rfl) dL_law_743 ⟨Nat.le_of_ble_eq_true rfl, Nat.le_of_ble_eq_true rfl⟩) hW (fun μ2 H locs q_2 hW => ?_)
  obtain ⟨hD2, ho2⟩ := q_2
  have hM2 := mainR_off hM1 ho2
  refine lv_icmp_eq (tgt := 1071) hx hb dL_law_746 (by decide) (fun c_3 => ?_) (fun c_3 => ?_)
  · skip
    exact kk (uS S (Ah S) (Ao S) (Ab S) 0) μ2 _ _ hM2 hD2 (n_unsee hA hm) hW
  · skip
    exact absurd rfl c_3

set_option maxHeartbeats 4000000 in
set_option maxRecDepth 100000 in
theorem lc_night {p : Program} {l : Launch} {e : Env} {s : State} {m : MethodId} {below : List Frame} {meth : Method} {c : Code} {D : va_G} {T : Nat → ClassId} {b L i B : Nat} {xs : Nat → Int32} {S : AS} {μ : ME} {H : Heap} {locs : List Loc} {ls : Array Slot} {Q : State → Prop} (F : Fx (gx D T s.heap.size 149) p s m #[Value.ref b] c code 4 R_law) (hX : va_X b L xs s s.heap) (hbl : b < s.heap.size) (hL : L ≤ 2560) (hi : i + 5 ≤ L) (hM : mainR (gx D T s.heap.size 149) μ S) (hD : modX (gx D T s.heap.size 149) μ S (fun _ => True)) (hA : aok S B) (hm : mok S) (hB : B < 800000) (hW : St (gx D T s.heap.size 149) s μ H locs) (hl : lv_has ls 4 [(0, .ref b), (1, .ref (xa (gx D T s.heap.size 149) 0)), (2, .ref (xa (gx D T s.heap.size 149) 136)), (3, .int (nI i))]) (kk : ∀ (S1 : AS) (μ1 : ME) (H1 : Heap) (locs1 : List Loc), mainR (gx D T s.heap.size 149) μ1 S1 → modX (gx D T s.heap.size 149) μ1 S1 (fun _ => True) → nxt S1 B → St (gx D T s.heap.size 149) s μ1 H1 locs1 → W p l e room_1 s m #[Value.ref b] below meth c H1 locs1 149 1628 Q (F0 m 1071 ls [])) : W p l e room_1 s m #[Value.ref b] below meth c H locs 149 1628 Q (F0 m 751 ls []) := by
  have hI := F.2.2
  have hx := F.1.1
  have hb := F.1.2.1
  have hts := F.1.2.2.2.2
  have m0 := hM.1
  obtain ⟨rh, nx, f1, fn, frd, ft, fo, fa, frw, fh, fu, fb, fz, fkp, g136, g137, g138, g139, g140, g141, g142, g143, g144, g145, g146, g147, g148, hg, hv, ht, hnx, hrw, hse, hkp, hTr⟩ := id hD
  have lt0 : 0 < xN (gx D T s.heap.size 149) := by show 0 < 149; decide
  have lt136 : 136 < xN (gx D T s.heap.size 149) := by show 136 < 149; decide
  refine lv_aload_n hx hb dL_law_751 rfl (lv_at hl 1 rfl) ?_
  refine lv_aload_n hx hb dL_law_752 rfl (lv_at hl 0 rfl) ?_
  refine lv_iload_n hx hb dL_law_753 rfl (lv_at hl 3 rfl) ?_
  refine lv_iconst (v := nI 1) hx hb dL_law_754 (by decide) ?_
  refine nv_add F dL_law_755 ?_
  refine sc_ld F hX hbl hW (by omega) hL dL_law_756 ?_
  refine cl_ie (cl_run (rest := []) F hW e_L_105 (k_night hI l (show 136 ≤ 149 by decide) hM hA hB ((xs (i + 1)))) ⟨Nat.le_of_ble_eq_true rfl, Nat.le_of_ble_eq_true rfl⟩ lt0 m0 rfl rfl rfl hl (Nat.le_of_ble_eq_true rfl) dL_law_757 ⟨Nat.le_of_ble_eq_true rfl, Nat.le_of_ble_eq_true rfl⟩) hW (fun μ1 H locs q_1 hW => ?_)
  obtain ⟨hM1, ho1⟩ := q_1
  have hD1 := modX_off hD ho1
  have g136_1 := (ho1 136 (by omega)).trans g136
  have m0_1 := hM1.1
  refine lv_aload_n hx hb dL_law_760 rfl (lv_at hl 2 rfl) ?_
  refine lv_aload_n hx hb dL_law_761 rfl (lv_at hl 0 rfl) ?_
  refine lv_iload_n hx hb dL_law_762 rfl (lv_at hl 3 rfl) ?_
  refine lv_iconst (v := nI 1) hx hb dL_law_763 (by decide) ?_
  refine nv_add F dL_law_764 ?_
  refine sc_ld F hX hbl hW (by omega) hL dL_law_765 ?_
  refine cl_ie (cl_run (rest := [.int (r_night S ((xs (i + 1))))]) F hW e_L_108 (x_night hI l (show 149 ≤ 149 by decide) hD1 hA hm hB ((xs (i + 1)))) ⟨Nat.le_of_ble_eq_true rfl, Nat.le_of_ble_eq_true rfl⟩ lt136 g136_1 rfl rfl rfl hl (Nat.le_of_ble_eq_true rfl) dL_law_766 ⟨Nat.le_of_ble_eq_true rfl, Nat.le_of_ble_eq_true rfl⟩) hW (fun μ2 H locs q_2 hW => ?_)
  obtain ⟨hD2, ho2⟩ := q_2
  have hM2 := mainR_off hM1 ho2
  refine lv_icmp_eq (tgt := 1071) hx hb dL_law_769 (by decide) (fun c_3 => ?_) (fun c_3 => ?_)
  · skip
    exact kk S μ2 _ _ hM2 hD2 (n_same hA hm) hW
  · skip
    exact absurd rfl c_3

set_option maxHeartbeats 4000000 in
set_option maxRecDepth 100000 in
theorem lc_share {p : Program} {l : Launch} {e : Env} {s : State} {m : MethodId} {below : List Frame} {meth : Method} {c : Code} {D : va_G} {T : Nat → ClassId} {b L i B : Nat} {xs : Nat → Int32} {S : AS} {μ : ME} {H : Heap} {locs : List Loc} {ls : Array Slot} {Q : State → Prop} (F : Fx (gx D T s.heap.size 149) p s m #[Value.ref b] c code 4 R_law) (hX : va_X b L xs s s.heap) (hbl : b < s.heap.size) (hL : L ≤ 2560) (hi : i + 5 ≤ L) (hM : mainR (gx D T s.heap.size 149) μ S) (hD : modX (gx D T s.heap.size 149) μ S (fun _ => True)) (hA : aok S B) (hm : mok S) (hB : B < 800000) (hW : St (gx D T s.heap.size 149) s μ H locs) (hl : lv_has ls 4 [(0, .ref b), (1, .ref (xa (gx D T s.heap.size 149) 0)), (2, .ref (xa (gx D T s.heap.size 149) 136)), (3, .int (nI i))]) (kk : ∀ (S1 : AS) (μ1 : ME) (H1 : Heap) (locs1 : List Loc), mainR (gx D T s.heap.size 149) μ1 S1 → modX (gx D T s.heap.size 149) μ1 S1 (fun _ => True) → nxt S1 B → St (gx D T s.heap.size 149) s μ1 H1 locs1 → W p l e room_1 s m #[Value.ref b] below meth c H1 locs1 149 1628 Q (F0 m 1071 ls [])) : W p l e room_1 s m #[Value.ref b] below meth c H locs 149 1628 Q (F0 m 774 ls []) := by
  have hI := F.2.2
  have hx := F.1.1
  have hb := F.1.2.1
  have hts := F.1.2.2.2.2
  have m0 := hM.1
  obtain ⟨rh, nx, f1, fn, frd, ft, fo, fa, frw, fh, fu, fb, fz, fkp, g136, g137, g138, g139, g140, g141, g142, g143, g144, g145, g146, g147, g148, hg, hv, ht, hnx, hrw, hse, hkp, hTr⟩ := id hD
  have lt0 : 0 < xN (gx D T s.heap.size 149) := by show 0 < 149; decide
  have lt136 : 136 < xN (gx D T s.heap.size 149) := by show 136 < 149; decide
  refine lv_aload_n hx hb dL_law_774 rfl (lv_at hl 1 rfl) ?_
  refine lv_aload_n hx hb dL_law_775 rfl (lv_at hl 0 rfl) ?_
  refine lv_iload_n hx hb dL_law_776 rfl (lv_at hl 3 rfl) ?_
  refine lv_iconst (v := nI 1) hx hb dL_law_777 (by decide) ?_
  refine nv_add F dL_law_778 ?_
  refine sc_ld F hX hbl hW (by omega) hL dL_law_779 ?_
  refine lv_aload_n hx hb dL_law_780 rfl (lv_at hl 0 rfl) ?_
  refine lv_iload_n hx hb dL_law_781 rfl (lv_at hl 3 rfl) ?_
  refine lv_iconst (v := nI 2) hx hb dL_law_782 (by decide) ?_
  refine nv_add F dL_law_783 ?_
  refine sc_ld F hX hbl hW (by omega) hL dL_law_784 ?_
  refine lv_if_eq (tgt := 792) hx hb dL_law_785 (by decide) (fun c_1 => ?_) (fun c_1 => ?_)
  · skip
    refine lv_iconst (v := nI 0) hx hb dL_law_792 (by decide) ?_
    refine cl_ie (cl_run (rest := []) F hW e_L_109 (k_share hI l (show 136 ≤ 149 by decide) hM hA hB ((xs (i + 1))) false) ⟨Nat.le_of_ble_eq_true rfl, Nat.le_of_ble_eq_true rfl⟩ lt0 m0 rfl rfl rfl hl (Nat.le_of_ble_eq_true rfl) dL_law_793 ⟨Nat.le_of_ble_eq_true rfl, Nat.le_of_ble_eq_true rfl⟩) hW (fun μ2 H locs q_2 hW => ?_)
    obtain ⟨hM1, ho1⟩ := q_2
    have hD1 := modX_off hD ho1
    have g136_1 := (ho1 136 (by omega)).trans g136
    have m0_1 := hM1.1
    refine lv_aload_n hx hb dL_law_796 rfl (lv_at hl 2 rfl) ?_
    refine lv_aload_n hx hb dL_law_797 rfl (lv_at hl 0 rfl) ?_
    refine lv_iload_n hx hb dL_law_798 rfl (lv_at hl 3 rfl) ?_
    refine lv_iconst (v := nI 1) hx hb dL_law_799 (by decide) ?_
    refine nv_add F dL_law_800 ?_
    refine sc_ld F hX hbl hW (by omega) hL dL_law_801 ?_
    refine lv_aload_n hx hb dL_law_802 rfl (lv_at hl 0 rfl) ?_
    refine lv_iload_n hx hb dL_law_803 rfl (lv_at hl 3 rfl) ?_
    refine lv_iconst (v := nI 2) hx hb dL_law_804 (by decide) ?_
    refine nv_add F dL_law_805 ?_
    refine sc_ld F hX hbl hW (by omega) hL dL_law_806 ?_
    refine lv_if_eq (tgt := 814) hx hb dL_law_807 (by decide) (fun c_3 => ?_) (fun c_3 => ?_)
    · skip
      refine lv_iconst (v := nI 0) hx hb dL_law_814 (by decide) ?_
      refine cl_ie (cl_run (rest := [.int (r_share S ((xs (i + 1))) false)]) F hW e_L_113 (x_share hI l (show 149 ≤ 149 by decide) hD1 hA hm hB ((xs (i + 1))) false) ⟨Nat.le_of_ble_eq_true rfl, Nat.le_of_ble_eq_true rfl⟩ lt136 g136_1 rfl rfl rfl hl (Nat.le_of_ble_eq_true rfl) dL_law_815 ⟨Nat.le_of_ble_eq_true rfl, Nat.le_of_ble_eq_true rfl⟩) hW (fun μ4 H locs q_4 hW => ?_)
      obtain ⟨hD2, ho2⟩ := q_4
      have hM2 := mainR_off hM1 ho2
      refine lv_icmp_eq (tgt := 1071) hx hb dL_law_818 (by decide) (fun c_5 => ?_) (fun c_5 => ?_)
      · skip
        exact kk S μ4 _ _ hM2 hD2 (n_same hA hm) hW
      · skip
        exact absurd rfl c_5
    · skip
      exact absurd (by assumption) c_3
  · skip
    refine lv_iconst (v := nI 1) hx hb dL_law_788 (by decide) ?_
    refine lv_goto (tgt := 793) hx hb dL_law_789 (by decide) ?_
    refine cl_ie (cl_run (rest := []) F hW e_L_109 (k_share hI l (show 136 ≤ 149 by decide) hM hA hB ((xs (i + 1))) true) ⟨Nat.le_of_ble_eq_true rfl, Nat.le_of_ble_eq_true rfl⟩ lt0 m0 rfl rfl rfl hl (Nat.le_of_ble_eq_true rfl) dL_law_793 ⟨Nat.le_of_ble_eq_true rfl, Nat.le_of_ble_eq_true rfl⟩) hW (fun μ6 H locs q_6 hW => ?_)
    obtain ⟨hM1, ho1⟩ := q_6
    have hD1 := modX_off hD ho1
    have g136_1 := (ho1 136 (by omega)).trans g136
    have m0_1 := hM1.1
    refine lv_aload_n hx hb dL_law_796 rfl (lv_at hl 2 rfl) ?_
    refine lv_aload_n hx hb dL_law_797 rfl (lv_at hl 0 rfl) ?_
    refine lv_iload_n hx hb dL_law_798 rfl (lv_at hl 3 rfl) ?_
    refine lv_iconst (v := nI 1) hx hb dL_law_799 (by decide) ?_
    refine nv_add F dL_law_800 ?_
    refine sc_ld F hX hbl hW (by omega) hL dL_law_801 ?_
    refine lv_aload_n hx hb dL_law_802 rfl (lv_at hl 0 rfl) ?_
    refine lv_iload_n hx hb dL_law_803 rfl (lv_at hl 3 rfl) ?_
    refine lv_iconst (v := nI 2) hx hb dL_law_804 (by decide) ?_
    refine nv_add F dL_law_805 ?_
    refine sc_ld F hX hbl hW (by omega) hL dL_law_806 ?_
    refine lv_if_eq (tgt := 814) hx hb dL_law_807 (by decide) (fun c_7 => ?_) (fun c_7 => ?_)
    · skip
      exact absurd c_7 (by assumption)
    · skip
      refine lv_iconst (v := nI 1) hx hb dL_law_810 (by decide) ?_
      refine lv_goto (tgt := 815) hx hb dL_law_811 (by decide) ?_
      refine cl_ie (cl_run (rest := [.int (r_share S ((xs (i + 1))) true)]) F hW e_L_113 (x_share hI l (show 149 ≤ 149 by decide) hD1 hA hm hB ((xs (i + 1))) true) ⟨Nat.le_of_ble_eq_true rfl, Nat.le_of_ble_eq_true rfl⟩ lt136 g136_1 rfl rfl rfl hl (Nat.le_of_ble_eq_true rfl) dL_law_815 ⟨Nat.le_of_ble_eq_true rfl, Nat.le_of_ble_eq_true rfl⟩) hW (fun μ8 H locs q_8 hW => ?_)
      obtain ⟨hD2, ho2⟩ := q_8
      have hM2 := mainR_off hM1 ho2
      refine lv_icmp_eq (tgt := 1071) hx hb dL_law_818 (by decide) (fun c_9 => ?_) (fun c_9 => ?_)
      · skip
        exact kk S μ8 _ _ hM2 hD2 (n_same hA hm) hW
      · skip
        exact absurd rfl c_9

set_option maxHeartbeats 4000000 in
set_option maxRecDepth 100000 in
theorem lc_rests {p : Program} {l : Launch} {e : Env} {s : State} {m : MethodId} {below : List Frame} {meth : Method} {c : Code} {D : va_G} {T : Nat → ClassId} {b L i B : Nat} {xs : Nat → Int32} {S : AS} {μ : ME} {H : Heap} {locs : List Loc} {ls : Array Slot} {Q : State → Prop} (F : Fx (gx D T s.heap.size 149) p s m #[Value.ref b] c code 4 R_law) (hX : va_X b L xs s s.heap) (hbl : b < s.heap.size) (hL : L ≤ 2560) (hi : i + 5 ≤ L) (hM : mainR (gx D T s.heap.size 149) μ S) (hD : modX (gx D T s.heap.size 149) μ S (fun _ => True)) (hA : aok S B) (hm : mok S) (hB : B < 800000) (hW : St (gx D T s.heap.size 149) s μ H locs) (hl : lv_has ls 4 [(0, .ref b), (1, .ref (xa (gx D T s.heap.size 149) 0)), (2, .ref (xa (gx D T s.heap.size 149) 136)), (3, .int (nI i))]) (kk : ∀ (S1 : AS) (μ1 : ME) (H1 : Heap) (locs1 : List Loc), mainR (gx D T s.heap.size 149) μ1 S1 → modX (gx D T s.heap.size 149) μ1 S1 (fun _ => True) → nxt S1 B → St (gx D T s.heap.size 149) s μ1 H1 locs1 → W p l e room_1 s m #[Value.ref b] below meth c H1 locs1 149 1628 Q (F0 m 1071 ls [])) : W p l e room_1 s m #[Value.ref b] below meth c H locs 149 1628 Q (F0 m 823 ls []) := by
  have hI := F.2.2
  have hx := F.1.1
  have hb := F.1.2.1
  have hts := F.1.2.2.2.2
  have m0 := hM.1
  obtain ⟨rh, nx, f1, fn, frd, ft, fo, fa, frw, fh, fu, fb, fz, fkp, g136, g137, g138, g139, g140, g141, g142, g143, g144, g145, g146, g147, g148, hg, hv, ht, hnx, hrw, hse, hkp, hTr⟩ := id hD
  have lt0 : 0 < xN (gx D T s.heap.size 149) := by show 0 < 149; decide
  have lt136 : 136 < xN (gx D T s.heap.size 149) := by show 136 < 149; decide
  refine lv_aload_n hx hb dL_law_823 rfl (lv_at hl 1 rfl) ?_
  refine lv_aload_n hx hb dL_law_824 rfl (lv_at hl 0 rfl) ?_
  refine lv_iload_n hx hb dL_law_825 rfl (lv_at hl 3 rfl) ?_
  refine lv_iconst (v := nI 1) hx hb dL_law_826 (by decide) ?_
  refine nv_add F dL_law_827 ?_
  refine sc_ld F hX hbl hW (by omega) hL dL_law_828 ?_
  refine lv_aload_n hx hb dL_law_829 rfl (lv_at hl 0 rfl) ?_
  refine lv_iload_n hx hb dL_law_830 rfl (lv_at hl 3 rfl) ?_
  refine lv_iconst (v := nI 2) hx hb dL_law_831 (by decide) ?_
  refine nv_add F dL_law_832 ?_
  refine sc_ld F hX hbl hW (by omega) hL dL_law_833 ?_
  refine lv_aload_n hx hb dL_law_834 rfl (lv_at hl 0 rfl) ?_
  refine lv_iload_n hx hb dL_law_835 rfl (lv_at hl 3 rfl) ?_
  refine lv_iconst (v := nI 3) hx hb dL_law_836 (by decide) ?_
  refine nv_add F dL_law_837 ?_
  refine sc_ld F hX hbl hW (by omega) hL dL_law_838 ?_
  refine cl_ie (cl_run (rest := []) F hW e_L_114 (k_rests hI l (show 136 ≤ 149 by decide) hM hA hB ((xs (i + 1))) ((xs (i + 2))) ((xs (i + 3)))) ⟨Nat.le_of_ble_eq_true rfl, Nat.le_of_ble_eq_true rfl⟩ lt0 m0 rfl rfl rfl hl (Nat.le_of_ble_eq_true rfl) dL_law_839 ⟨Nat.le_of_ble_eq_true rfl, Nat.le_of_ble_eq_true rfl⟩) hW (fun μ1 H locs q_1 hW => ?_)
  obtain ⟨hM1, ho1⟩ := q_1
  have hD1 := modX_off hD ho1
  have g136_1 := (ho1 136 (by omega)).trans g136
  have m0_1 := hM1.1
  refine lv_aload_n hx hb dL_law_842 rfl (lv_at hl 2 rfl) ?_
  refine lv_aload_n hx hb dL_law_843 rfl (lv_at hl 0 rfl) ?_
  refine lv_iload_n hx hb dL_law_844 rfl (lv_at hl 3 rfl) ?_
  refine lv_iconst (v := nI 1) hx hb dL_law_845 (by decide) ?_
  refine nv_add F dL_law_846 ?_
  refine sc_ld F hX hbl hW (by omega) hL dL_law_847 ?_
  refine lv_aload_n hx hb dL_law_848 rfl (lv_at hl 0 rfl) ?_
  refine lv_iload_n hx hb dL_law_849 rfl (lv_at hl 3 rfl) ?_
  refine lv_iconst (v := nI 2) hx hb dL_law_850 (by decide) ?_
  refine nv_add F dL_law_851 ?_
  refine sc_ld F hX hbl hW (by omega) hL dL_law_852 ?_
  refine lv_aload_n hx hb dL_law_853 rfl (lv_at hl 0 rfl) ?_
  refine lv_iload_n hx hb dL_law_854 rfl (lv_at hl 3 rfl) ?_
  refine lv_iconst (v := nI 3) hx hb dL_law_855 (by decide) ?_
  refine nv_add F dL_law_856 ?_
  refine sc_ld F hX hbl hW (by omega) hL dL_law_857 ?_
  refine cl_ie (cl_run (rest := [.int (r_rests S ((xs (i + 1))) ((xs (i + 2))) ((xs (i + 3))))]) F hW e_L_117 (x_rests hI l (show 149 ≤ 149 by decide) hD1 hA hm hB ((xs (i + 1))) ((xs (i + 2))) ((xs (i + 3)))) ⟨Nat.le_of_ble_eq_true rfl, Nat.le_of_ble_eq_true rfl⟩ lt136 g136_1 rfl rfl rfl hl (Nat.le_of_ble_eq_true rfl) dL_law_858 ⟨Nat.le_of_ble_eq_true rfl, Nat.le_of_ble_eq_true rfl⟩) hW (fun μ2 H locs q_2 hW => ?_)
  obtain ⟨hD2, ho2⟩ := q_2
  have hM2 := mainR_off hM1 ho2
  refine lv_icmp_eq (tgt := 1071) hx hb dL_law_861 (by decide) (fun c_3 => ?_) (fun c_3 => ?_)
  · skip
    exact kk S μ2 _ _ hM2 hD2 (n_same hA hm) hW
  · skip
    exact absurd rfl c_3

set_option maxHeartbeats 4000000 in
set_option maxRecDepth 100000 in
theorem lc_fails {p : Program} {l : Launch} {e : Env} {s : State} {m : MethodId} {below : List Frame} {meth : Method} {c : Code} {D : va_G} {T : Nat → ClassId} {b L i B : Nat} {xs : Nat → Int32} {S : AS} {μ : ME} {H : Heap} {locs : List Loc} {ls : Array Slot} {Q : State → Prop} (F : Fx (gx D T s.heap.size 149) p s m #[Value.ref b] c code 4 R_law) (hX : va_X b L xs s s.heap) (hbl : b < s.heap.size) (hL : L ≤ 2560) (hi : i + 5 ≤ L) (hM : mainR (gx D T s.heap.size 149) μ S) (hD : modX (gx D T s.heap.size 149) μ S (fun _ => True)) (hA : aok S B) (hm : mok S) (hB : B < 800000) (hW : St (gx D T s.heap.size 149) s μ H locs) (hl : lv_has ls 4 [(0, .ref b), (1, .ref (xa (gx D T s.heap.size 149) 0)), (2, .ref (xa (gx D T s.heap.size 149) 136)), (3, .int (nI i))]) (kk : ∀ (S1 : AS) (μ1 : ME) (H1 : Heap) (locs1 : List Loc), mainR (gx D T s.heap.size 149) μ1 S1 → modX (gx D T s.heap.size 149) μ1 S1 (fun _ => True) → nxt S1 B → St (gx D T s.heap.size 149) s μ1 H1 locs1 → W p l e room_1 s m #[Value.ref b] below meth c H1 locs1 149 1628 Q (F0 m 1071 ls [])) : W p l e room_1 s m #[Value.ref b] below meth c H locs 149 1628 Q (F0 m 866 ls []) := by
  have hI := F.2.2
  have hx := F.1.1
  have hb := F.1.2.1
  have hts := F.1.2.2.2.2
  have m0 := hM.1
  obtain ⟨rh, nx, f1, fn, frd, ft, fo, fa, frw, fh, fu, fb, fz, fkp, g136, g137, g138, g139, g140, g141, g142, g143, g144, g145, g146, g147, g148, hg, hv, ht, hnx, hrw, hse, hkp, hTr⟩ := id hD
  have lt0 : 0 < xN (gx D T s.heap.size 149) := by show 0 < 149; decide
  have lt136 : 136 < xN (gx D T s.heap.size 149) := by show 136 < 149; decide
  refine lv_aload_n hx hb dL_law_866 rfl (lv_at hl 1 rfl) ?_
  refine lv_aload_n hx hb dL_law_867 rfl (lv_at hl 0 rfl) ?_
  refine lv_iload_n hx hb dL_law_868 rfl (lv_at hl 3 rfl) ?_
  refine lv_iconst (v := nI 1) hx hb dL_law_869 (by decide) ?_
  refine nv_add F dL_law_870 ?_
  refine sc_ld F hX hbl hW (by omega) hL dL_law_871 ?_
  refine lv_aload_n hx hb dL_law_872 rfl (lv_at hl 0 rfl) ?_
  refine lv_iload_n hx hb dL_law_873 rfl (lv_at hl 3 rfl) ?_
  refine lv_iconst (v := nI 2) hx hb dL_law_874 (by decide) ?_
  refine nv_add F dL_law_875 ?_
  refine sc_ld F hX hbl hW (by omega) hL dL_law_876 ?_
  refine lv_aload_n hx hb dL_law_877 rfl (lv_at hl 0 rfl) ?_
  refine lv_iload_n hx hb dL_law_878 rfl (lv_at hl 3 rfl) ?_
  refine lv_iconst (v := nI 3) hx hb dL_law_879 (by decide) ?_
  refine nv_add F dL_law_880 ?_
  refine sc_ld F hX hbl hW (by omega) hL dL_law_881 ?_
  refine lv_if_eq (tgt := 889) hx hb dL_law_882 (by decide) (fun c_1 => ?_) (fun c_1 => ?_)
  · skip
    refine lv_iconst (v := nI 0) hx hb dL_law_889 (by decide) ?_
    refine cl_ie (cl_run (rest := []) F hW e_L_118 (k_fails hI l (show 136 ≤ 149 by decide) hM hA hB ((xs (i + 1))) ((xs (i + 2))) false) ⟨Nat.le_of_ble_eq_true rfl, Nat.le_of_ble_eq_true rfl⟩ lt0 m0 rfl rfl rfl hl (Nat.le_of_ble_eq_true rfl) dL_law_890 ⟨Nat.le_of_ble_eq_true rfl, Nat.le_of_ble_eq_true rfl⟩) hW (fun μ2 H locs q_2 hW => ?_)
    obtain ⟨hM1, ho1⟩ := q_2
    have hD1 := modX_off hD ho1
    have g136_1 := (ho1 136 (by omega)).trans g136
    have m0_1 := hM1.1
    refine lv_aload_n hx hb dL_law_893 rfl (lv_at hl 2 rfl) ?_
    refine lv_aload_n hx hb dL_law_894 rfl (lv_at hl 0 rfl) ?_
    refine lv_iload_n hx hb dL_law_895 rfl (lv_at hl 3 rfl) ?_
    refine lv_iconst (v := nI 1) hx hb dL_law_896 (by decide) ?_
    refine nv_add F dL_law_897 ?_
    refine sc_ld F hX hbl hW (by omega) hL dL_law_898 ?_
    refine lv_aload_n hx hb dL_law_899 rfl (lv_at hl 0 rfl) ?_
    refine lv_iload_n hx hb dL_law_900 rfl (lv_at hl 3 rfl) ?_
    refine lv_iconst (v := nI 2) hx hb dL_law_901 (by decide) ?_
    refine nv_add F dL_law_902 ?_
    refine sc_ld F hX hbl hW (by omega) hL dL_law_903 ?_
    refine lv_aload_n hx hb dL_law_904 rfl (lv_at hl 0 rfl) ?_
    refine lv_iload_n hx hb dL_law_905 rfl (lv_at hl 3 rfl) ?_
    refine lv_iconst (v := nI 3) hx hb dL_law_906 (by decide) ?_
    refine nv_add F dL_law_907 ?_
    refine sc_ld F hX hbl hW (by omega) hL dL_law_908 ?_
    refine lv_if_eq (tgt := 916) hx hb dL_law_909 (by decide) (fun c_3 => ?_) (fun c_3 => ?_)
    · skip
      refine lv_iconst (v := nI 0) hx hb dL_law_916 (by decide) ?_
      refine cl_ie (cl_run (rest := [.int (r_fails S ((xs (i + 1))) ((xs (i + 2))) false)]) F hW e_L_122 (x_fails hI l (show 149 ≤ 149 by decide) hD1 hA hm hB ((xs (i + 1))) ((xs (i + 2))) false) ⟨Nat.le_of_ble_eq_true rfl, Nat.le_of_ble_eq_true rfl⟩ lt136 g136_1 rfl rfl rfl hl (Nat.le_of_ble_eq_true rfl) dL_law_917 ⟨Nat.le_of_ble_eq_true rfl, Nat.le_of_ble_eq_true rfl⟩) hW (fun μ4 H locs q_4 hW => ?_)
      obtain ⟨hD2, ho2⟩ := q_4
      have hM2 := mainR_off hM1 ho2
      refine lv_icmp_eq (tgt := 1071) hx hb dL_law_920 (by decide) (fun c_5 => ?_) (fun c_5 => ?_)
      · skip
        exact kk S μ4 _ _ hM2 hD2 (n_same hA hm) hW
      · skip
        exact absurd rfl c_5
    · skip
      exact absurd (by assumption) c_3
  · skip
    refine lv_iconst (v := nI 1) hx hb dL_law_885 (by decide) ?_
    refine lv_goto (tgt := 890) hx hb dL_law_886 (by decide) ?_
    refine cl_ie (cl_run (rest := []) F hW e_L_118 (k_fails hI l (show 136 ≤ 149 by decide) hM hA hB ((xs (i + 1))) ((xs (i + 2))) true) ⟨Nat.le_of_ble_eq_true rfl, Nat.le_of_ble_eq_true rfl⟩ lt0 m0 rfl rfl rfl hl (Nat.le_of_ble_eq_true rfl) dL_law_890 ⟨Nat.le_of_ble_eq_true rfl, Nat.le_of_ble_eq_true rfl⟩) hW (fun μ6 H locs q_6 hW => ?_)
    obtain ⟨hM1, ho1⟩ := q_6
    have hD1 := modX_off hD ho1
    have g136_1 := (ho1 136 (by omega)).trans g136
    have m0_1 := hM1.1
    refine lv_aload_n hx hb dL_law_893 rfl (lv_at hl 2 rfl) ?_
    refine lv_aload_n hx hb dL_law_894 rfl (lv_at hl 0 rfl) ?_
    refine lv_iload_n hx hb dL_law_895 rfl (lv_at hl 3 rfl) ?_
    refine lv_iconst (v := nI 1) hx hb dL_law_896 (by decide) ?_
    refine nv_add F dL_law_897 ?_
    refine sc_ld F hX hbl hW (by omega) hL dL_law_898 ?_
    refine lv_aload_n hx hb dL_law_899 rfl (lv_at hl 0 rfl) ?_
    refine lv_iload_n hx hb dL_law_900 rfl (lv_at hl 3 rfl) ?_
    refine lv_iconst (v := nI 2) hx hb dL_law_901 (by decide) ?_
    refine nv_add F dL_law_902 ?_
    refine sc_ld F hX hbl hW (by omega) hL dL_law_903 ?_
    refine lv_aload_n hx hb dL_law_904 rfl (lv_at hl 0 rfl) ?_
    refine lv_iload_n hx hb dL_law_905 rfl (lv_at hl 3 rfl) ?_
    refine lv_iconst (v := nI 3) hx hb dL_law_906 (by decide) ?_
    refine nv_add F dL_law_907 ?_
    refine sc_ld F hX hbl hW (by omega) hL dL_law_908 ?_
    refine lv_if_eq (tgt := 916) hx hb dL_law_909 (by decide) (fun c_7 => ?_) (fun c_7 => ?_)
    · skip
      exact absurd c_7 (by assumption)
    · skip
      refine lv_iconst (v := nI 1) hx hb dL_law_912 (by decide) ?_
      refine lv_goto (tgt := 917) hx hb dL_law_913 (by decide) ?_
      refine cl_ie (cl_run (rest := [.int (r_fails S ((xs (i + 1))) ((xs (i + 2))) true)]) F hW e_L_122 (x_fails hI l (show 149 ≤ 149 by decide) hD1 hA hm hB ((xs (i + 1))) ((xs (i + 2))) true) ⟨Nat.le_of_ble_eq_true rfl, Nat.le_of_ble_eq_true rfl⟩ lt136 g136_1 rfl rfl rfl hl (Nat.le_of_ble_eq_true rfl) dL_law_917 ⟨Nat.le_of_ble_eq_true rfl, Nat.le_of_ble_eq_true rfl⟩) hW (fun μ8 H locs q_8 hW => ?_)
      obtain ⟨hD2, ho2⟩ := q_8
      have hM2 := mainR_off hM1 ho2
      refine lv_icmp_eq (tgt := 1071) hx hb dL_law_920 (by decide) (fun c_9 => ?_) (fun c_9 => ?_)
      · skip
        exact kk S μ8 _ _ hM2 hD2 (n_same hA hm) hW
      · skip
        exact absurd rfl c_9

set_option maxHeartbeats 4000000 in
set_option maxRecDepth 100000 in
theorem lc_seed {p : Program} {l : Launch} {e : Env} {s : State} {m : MethodId} {below : List Frame} {meth : Method} {c : Code} {D : va_G} {T : Nat → ClassId} {b L i B : Nat} {xs : Nat → Int32} {S : AS} {μ : ME} {H : Heap} {locs : List Loc} {ls : Array Slot} {Q : State → Prop} (F : Fx (gx D T s.heap.size 149) p s m #[Value.ref b] c code 4 R_law) (hX : va_X b L xs s s.heap) (hbl : b < s.heap.size) (hL : L ≤ 2560) (hi : i + 5 ≤ L) (hM : mainR (gx D T s.heap.size 149) μ S) (hD : modX (gx D T s.heap.size 149) μ S (fun _ => True)) (hA : aok S B) (hm : mok S) (hB : B < 800000) (hW : St (gx D T s.heap.size 149) s μ H locs) (hl : lv_has ls 4 [(0, .ref b), (1, .ref (xa (gx D T s.heap.size 149) 0)), (2, .ref (xa (gx D T s.heap.size 149) 136)), (3, .int (nI i))]) (kk : ∀ (S1 : AS) (μ1 : ME) (H1 : Heap) (locs1 : List Loc), mainR (gx D T s.heap.size 149) μ1 S1 → modX (gx D T s.heap.size 149) μ1 S1 (fun _ => True) → nxt S1 B → St (gx D T s.heap.size 149) s μ1 H1 locs1 → W p l e room_1 s m #[Value.ref b] below meth c H1 locs1 149 1628 Q (F0 m 1071 ls [])) : W p l e room_1 s m #[Value.ref b] below meth c H locs 149 1628 Q (F0 m 925 ls []) := by
  have hI := F.2.2
  have hx := F.1.1
  have hb := F.1.2.1
  have hts := F.1.2.2.2.2
  have m0 := hM.1
  obtain ⟨rh, nx, f1, fn, frd, ft, fo, fa, frw, fh, fu, fb, fz, fkp, g136, g137, g138, g139, g140, g141, g142, g143, g144, g145, g146, g147, g148, hg, hv, ht, hnx, hrw, hse, hkp, hTr⟩ := id hD
  have lt0 : 0 < xN (gx D T s.heap.size 149) := by show 0 < 149; decide
  have lt136 : 136 < xN (gx D T s.heap.size 149) := by show 136 < 149; decide
  refine lv_aload_n hx hb dL_law_925 rfl (lv_at hl 1 rfl) ?_
  refine lv_aload_n hx hb dL_law_926 rfl (lv_at hl 0 rfl) ?_
  refine lv_iload_n hx hb dL_law_927 rfl (lv_at hl 3 rfl) ?_
  refine lv_iconst (v := nI 1) hx hb dL_law_928 (by decide) ?_
  refine nv_add F dL_law_929 ?_
  refine sc_ld F hX hbl hW (by omega) hL dL_law_930 ?_
  refine lv_i2l hx hb dL_law_931 rfl ?_
  refine lv_bipush (v := nI 32) hx hb dL_law_932 (by decide) ?_
  refine lv_lshl hx hb dL_law_934 rfl ?_
  refine lv_aload_n hx hb dL_law_935 rfl (lv_at hl 0 rfl) ?_
  refine lv_iload_n hx hb dL_law_936 rfl (lv_at hl 3 rfl) ?_
  refine lv_iconst (v := nI 2) hx hb dL_law_937 (by decide) ?_
  refine nv_add F dL_law_938 ?_
  refine sc_ld F hX hbl hW (by omega) hL dL_law_939 ?_
  refine lv_i2l hx hb dL_law_940 rfl ?_
  refine lv_ldc2 (v := lN 4294967295) hx hb F.1.2.2.2.1 (hts _ tw_944) dL_law_941 ?_
  refine lv_land hx hb dL_law_944 ?_
  refine lv_lor hx hb dL_law_945 ?_
  refine cl_le (cl_run (rest := []) F hW e_L_123 (k_seed hI l (show 136 ≤ 149 by decide) hM hA hB ((((((((xs (i + 1))).toInt64)) <<< (((nI 32)).toInt64 &&& 63))) ||| ((((((xs (i + 2))).toInt64)) &&& ((lN 4294967295))))))) ⟨Nat.le_of_ble_eq_true rfl, Nat.le_of_ble_eq_true rfl⟩ lt0 m0 rfl rfl rfl hl (Nat.le_of_ble_eq_true rfl) dL_law_946 ⟨Nat.le_of_ble_eq_true rfl, Nat.le_of_ble_eq_true rfl⟩) hW (fun μ1 H locs q_1 hW => ?_)
  obtain ⟨hM1, ho1⟩ := q_1
  have hD1 := modX_off hD ho1
  have g136_1 := (ho1 136 (by omega)).trans g136
  have m0_1 := hM1.1
  refine lv_aload_n hx hb dL_law_949 rfl (lv_at hl 2 rfl) ?_
  refine lv_aload_n hx hb dL_law_950 rfl (lv_at hl 0 rfl) ?_
  refine lv_iload_n hx hb dL_law_951 rfl (lv_at hl 3 rfl) ?_
  refine lv_iconst (v := nI 1) hx hb dL_law_952 (by decide) ?_
  refine nv_add F dL_law_953 ?_
  refine sc_ld F hX hbl hW (by omega) hL dL_law_954 ?_
  refine lv_i2l hx hb dL_law_955 rfl ?_
  refine lv_bipush (v := nI 32) hx hb dL_law_956 (by decide) ?_
  refine lv_lshl hx hb dL_law_958 rfl ?_
  refine lv_aload_n hx hb dL_law_959 rfl (lv_at hl 0 rfl) ?_
  refine lv_iload_n hx hb dL_law_960 rfl (lv_at hl 3 rfl) ?_
  refine lv_iconst (v := nI 2) hx hb dL_law_961 (by decide) ?_
  refine nv_add F dL_law_962 ?_
  refine sc_ld F hX hbl hW (by omega) hL dL_law_963 ?_
  refine lv_i2l hx hb dL_law_964 rfl ?_
  refine lv_ldc2 (v := lN 4294967295) hx hb F.1.2.2.2.1 (hts _ tw_944) dL_law_965 ?_
  refine lv_land hx hb dL_law_968 ?_
  refine lv_lor hx hb dL_law_969 ?_
  refine cl_le (cl_run (rest := [.long (Ad S)]) F hW e_L_127 (x_seed hI l (show 149 ≤ 149 by decide) hD1 hA hm hB ((((((((xs (i + 1))).toInt64)) <<< (((nI 32)).toInt64 &&& 63))) ||| ((((((xs (i + 2))).toInt64)) &&& ((lN 4294967295))))))) ⟨Nat.le_of_ble_eq_true rfl, Nat.le_of_ble_eq_true rfl⟩ lt136 g136_1 rfl rfl rfl hl (Nat.le_of_ble_eq_true rfl) dL_law_970 ⟨Nat.le_of_ble_eq_true rfl, Nat.le_of_ble_eq_true rfl⟩) hW (fun μ2 H locs q_2 hW => ?_)
  obtain ⟨hD2, ho2⟩ := q_2
  have hM2 := mainR_off hM1 ho2
  refine W.lcmp hx hb dL_law_973 ?_
  refine lv_if_eq (tgt := 1071) hx hb dL_law_974 (by decide) (fun c_3 => ?_) (fun c_3 => ?_)
  · skip
    exact kk (uD S ((((((((xs (i + 1))).toInt64)) <<< (((nI 32)).toInt64 &&& 63))) ||| ((((((xs (i + 2))).toInt64)) &&& ((lN 4294967295))))))) μ2 _ _ hM2 hD2 (n_seed hA hm _) hW
  · skip
    exact absurd ((lg_cmp_eq _ _).mpr rfl) c_3

set_option maxHeartbeats 4000000 in
set_option maxRecDepth 100000 in
theorem lc_years {p : Program} {l : Launch} {e : Env} {s : State} {m : MethodId} {below : List Frame} {meth : Method} {c : Code} {D : va_G} {T : Nat → ClassId} {b L i B : Nat} {xs : Nat → Int32} {S : AS} {μ : ME} {H : Heap} {locs : List Loc} {ls : Array Slot} {Q : State → Prop} (F : Fx (gx D T s.heap.size 149) p s m #[Value.ref b] c code 4 R_law) (hX : va_X b L xs s s.heap) (hbl : b < s.heap.size) (hL : L ≤ 2560) (hi : i + 5 ≤ L) (hM : mainR (gx D T s.heap.size 149) μ S) (hD : modX (gx D T s.heap.size 149) μ S (fun _ => True)) (hA : aok S B) (hm : mok S) (hB : B < 800000) (hW : St (gx D T s.heap.size 149) s μ H locs) (hl : lv_has ls 4 [(0, .ref b), (1, .ref (xa (gx D T s.heap.size 149) 0)), (2, .ref (xa (gx D T s.heap.size 149) 136)), (3, .int (nI i))]) (kk : ∀ (S1 : AS) (μ1 : ME) (H1 : Heap) (locs1 : List Loc), mainR (gx D T s.heap.size 149) μ1 S1 → modX (gx D T s.heap.size 149) μ1 S1 (fun _ => True) → nxt S1 B → St (gx D T s.heap.size 149) s μ1 H1 locs1 → W p l e room_1 s m #[Value.ref b] below meth c H1 locs1 149 1628 Q (F0 m 1071 ls [])) : W p l e room_1 s m #[Value.ref b] below meth c H locs 149 1628 Q (F0 m 979 ls []) := by
  have hI := F.2.2
  have hx := F.1.1
  have hb := F.1.2.1
  have hts := F.1.2.2.2.2
  have m0 := hM.1
  obtain ⟨rh, nx, f1, fn, frd, ft, fo, fa, frw, fh, fu, fb, fz, fkp, g136, g137, g138, g139, g140, g141, g142, g143, g144, g145, g146, g147, g148, hg, hv, ht, hnx, hrw, hse, hkp, hTr⟩ := id hD
  have lt0 : 0 < xN (gx D T s.heap.size 149) := by show 0 < 149; decide
  have lt136 : 136 < xN (gx D T s.heap.size 149) := by show 136 < 149; decide
  refine lv_aload_n hx hb dL_law_979 rfl (lv_at hl 1 rfl) ?_
  refine lv_aload_n hx hb dL_law_980 rfl (lv_at hl 0 rfl) ?_
  refine lv_iload_n hx hb dL_law_981 rfl (lv_at hl 3 rfl) ?_
  refine lv_iconst (v := nI 1) hx hb dL_law_982 (by decide) ?_
  refine nv_add F dL_law_983 ?_
  refine sc_ld F hX hbl hW (by omega) hL dL_law_984 ?_
  refine cl_ie (cl_run (rest := []) F hW e_L_128 (k_years hI l (show 136 ≤ 149 by decide) hM hA hB ((xs (i + 1)))) ⟨Nat.le_of_ble_eq_true rfl, Nat.le_of_ble_eq_true rfl⟩ lt0 m0 rfl rfl rfl hl (Nat.le_of_ble_eq_true rfl) dL_law_985 ⟨Nat.le_of_ble_eq_true rfl, Nat.le_of_ble_eq_true rfl⟩) hW (fun μ1 H locs q_1 hW => ?_)
  obtain ⟨hM1, ho1⟩ := q_1
  have hD1 := modX_off hD ho1
  have g136_1 := (ho1 136 (by omega)).trans g136
  have m0_1 := hM1.1
  refine lv_aload_n hx hb dL_law_988 rfl (lv_at hl 2 rfl) ?_
  refine lv_aload_n hx hb dL_law_989 rfl (lv_at hl 0 rfl) ?_
  refine lv_iload_n hx hb dL_law_990 rfl (lv_at hl 3 rfl) ?_
  refine lv_iconst (v := nI 1) hx hb dL_law_991 (by decide) ?_
  refine nv_add F dL_law_992 ?_
  refine sc_ld F hX hbl hW (by omega) hL dL_law_993 ?_
  refine cl_ie (cl_run (rest := [.int (r_years S ((xs (i + 1))))]) F hW e_L_131 (x_years hI l (show 149 ≤ 149 by decide) hD1 hA hm hB ((xs (i + 1)))) ⟨Nat.le_of_ble_eq_true rfl, Nat.le_of_ble_eq_true rfl⟩ lt136 g136_1 rfl rfl rfl hl (Nat.le_of_ble_eq_true rfl) dL_law_994 ⟨Nat.le_of_ble_eq_true rfl, Nat.le_of_ble_eq_true rfl⟩) hW (fun μ2 H locs q_2 hW => ?_)
  obtain ⟨hD2, ho2⟩ := q_2
  have hM2 := mainR_off hM1 ho2
  refine lv_icmp_eq (tgt := 1071) hx hb dL_law_997 (by decide) (fun c_3 => ?_) (fun c_3 => ?_)
  · skip
    exact kk (s_years S ((xs (i + 1)))) μ2 _ _ hM2 hD2 (n_years hA hm _) hW
  · skip
    exact absurd rfl c_3

set_option maxHeartbeats 4000000 in
set_option maxRecDepth 100000 in
theorem lc_keep {p : Program} {l : Launch} {e : Env} {s : State} {m : MethodId} {below : List Frame} {meth : Method} {c : Code} {D : va_G} {T : Nat → ClassId} {b L i B : Nat} {xs : Nat → Int32} {S : AS} {μ : ME} {H : Heap} {locs : List Loc} {ls : Array Slot} {Q : State → Prop} (F : Fx (gx D T s.heap.size 149) p s m #[Value.ref b] c code 4 R_law) (hX : va_X b L xs s s.heap) (hbl : b < s.heap.size) (hL : L ≤ 2560) (hi : i + 5 ≤ L) (hM : mainR (gx D T s.heap.size 149) μ S) (hD : modX (gx D T s.heap.size 149) μ S (fun _ => True)) (hA : aok S B) (hm : mok S) (hB : B < 800000) (hW : St (gx D T s.heap.size 149) s μ H locs) (hl : lv_has ls 4 [(0, .ref b), (1, .ref (xa (gx D T s.heap.size 149) 0)), (2, .ref (xa (gx D T s.heap.size 149) 136)), (3, .int (nI i))]) (kk : ∀ (S1 : AS) (μ1 : ME) (H1 : Heap) (locs1 : List Loc), mainR (gx D T s.heap.size 149) μ1 S1 → modX (gx D T s.heap.size 149) μ1 S1 (fun _ => True) → nxt S1 B → St (gx D T s.heap.size 149) s μ1 H1 locs1 → W p l e room_1 s m #[Value.ref b] below meth c H1 locs1 149 1628 Q (F0 m 1071 ls [])) : W p l e room_1 s m #[Value.ref b] below meth c H locs 149 1628 Q (F0 m 1002 ls []) := by
  have hI := F.2.2
  have hx := F.1.1
  have hb := F.1.2.1
  have hts := F.1.2.2.2.2
  have m0 := hM.1
  obtain ⟨rh, nx, f1, fn, frd, ft, fo, fa, frw, fh, fu, fb, fz, fkp, g136, g137, g138, g139, g140, g141, g142, g143, g144, g145, g146, g147, g148, hg, hv, ht, hnx, hrw, hse, hkp, hTr⟩ := id hD
  have lt0 : 0 < xN (gx D T s.heap.size 149) := by show 0 < 149; decide
  have lt136 : 136 < xN (gx D T s.heap.size 149) := by show 136 < 149; decide
  refine lv_aload_n hx hb dL_law_1002 rfl (lv_at hl 1 rfl) ?_
  refine lv_aload_n hx hb dL_law_1003 rfl (lv_at hl 0 rfl) ?_
  refine lv_iload_n hx hb dL_law_1004 rfl (lv_at hl 3 rfl) ?_
  refine lv_iconst (v := nI 1) hx hb dL_law_1005 (by decide) ?_
  refine nv_add F dL_law_1006 ?_
  refine sc_ld F hX hbl hW (by omega) hL dL_law_1007 ?_
  refine cl_ie (cl_run (rest := []) F hW e_L_132 (k_keep hI l (show 136 ≤ 149 by decide) hM hA hB ((xs (i + 1)))) ⟨Nat.le_of_ble_eq_true rfl, Nat.le_of_ble_eq_true rfl⟩ lt0 m0 rfl rfl rfl hl (Nat.le_of_ble_eq_true rfl) dL_law_1008 ⟨Nat.le_of_ble_eq_true rfl, Nat.le_of_ble_eq_true rfl⟩) hW (fun μ1 H locs q_1 hW => ?_)
  obtain ⟨hM1, ho1⟩ := q_1
  have hD1 := modX_off hD ho1
  have g136_1 := (ho1 136 (by omega)).trans g136
  have m0_1 := hM1.1
  refine lv_aload_n hx hb dL_law_1011 rfl (lv_at hl 2 rfl) ?_
  refine lv_aload_n hx hb dL_law_1012 rfl (lv_at hl 0 rfl) ?_
  refine lv_iload_n hx hb dL_law_1013 rfl (lv_at hl 3 rfl) ?_
  refine lv_iconst (v := nI 1) hx hb dL_law_1014 (by decide) ?_
  refine nv_add F dL_law_1015 ?_
  refine sc_ld F hX hbl hW (by omega) hL dL_law_1016 ?_
  refine cl_ie (cl_run (rest := [.int (r_keep S ((xs (i + 1))))]) F hW e_L_135 (x_keep hI l (show 149 ≤ 149 by decide) hD1 hA hm hB ((xs (i + 1)))) ⟨Nat.le_of_ble_eq_true rfl, Nat.le_of_ble_eq_true rfl⟩ lt136 g136_1 rfl rfl rfl hl (Nat.le_of_ble_eq_true rfl) dL_law_1017 ⟨Nat.le_of_ble_eq_true rfl, Nat.le_of_ble_eq_true rfl⟩) hW (fun μ2 H locs q_2 hW => ?_)
  obtain ⟨hD2, ho2⟩ := q_2
  have hM2 := mainR_off hM1 ho2
  refine lv_icmp_eq (tgt := 1071) hx hb dL_law_1020 (by decide) (fun c_3 => ?_) (fun c_3 => ?_)
  · skip
    exact kk (s_keep S ((xs (i + 1)))) μ2 _ _ hM2 hD2 (n_keep hA hm _) hW
  · skip
    exact absurd rfl c_3

set_option maxHeartbeats 4000000 in
set_option maxRecDepth 100000 in
theorem lc_again {p : Program} {l : Launch} {e : Env} {s : State} {m : MethodId} {below : List Frame} {meth : Method} {c : Code} {D : va_G} {T : Nat → ClassId} {b L i B : Nat} {xs : Nat → Int32} {S : AS} {μ : ME} {H : Heap} {locs : List Loc} {ls : Array Slot} {Q : State → Prop} (F : Fx (gx D T s.heap.size 149) p s m #[Value.ref b] c code 4 R_law) (hX : va_X b L xs s s.heap) (hbl : b < s.heap.size) (hL : L ≤ 2560) (hi : i + 5 ≤ L) (hM : mainR (gx D T s.heap.size 149) μ S) (hD : modX (gx D T s.heap.size 149) μ S (fun _ => True)) (hA : aok S B) (hm : mok S) (hB : B < 800000) (hW : St (gx D T s.heap.size 149) s μ H locs) (hl : lv_has ls 4 [(0, .ref b), (1, .ref (xa (gx D T s.heap.size 149) 0)), (2, .ref (xa (gx D T s.heap.size 149) 136)), (3, .int (nI i))]) (kk : ∀ (S1 : AS) (μ1 : ME) (H1 : Heap) (locs1 : List Loc), mainR (gx D T s.heap.size 149) μ1 S1 → modX (gx D T s.heap.size 149) μ1 S1 (fun _ => True) → nxt S1 B → St (gx D T s.heap.size 149) s μ1 H1 locs1 → W p l e room_1 s m #[Value.ref b] below meth c H1 locs1 149 1628 Q (F0 m 1071 ls [])) : W p l e room_1 s m #[Value.ref b] below meth c H locs 149 1628 Q (F0 m 1025 ls []) := by
  have hI := F.2.2
  have hx := F.1.1
  have hb := F.1.2.1
  have hts := F.1.2.2.2.2
  have m0 := hM.1
  obtain ⟨rh, nx, f1, fn, frd, ft, fo, fa, frw, fh, fu, fb, fz, fkp, g136, g137, g138, g139, g140, g141, g142, g143, g144, g145, g146, g147, g148, hg, hv, ht, hnx, hrw, hse, hkp, hTr⟩ := id hD
  have lt0 : 0 < xN (gx D T s.heap.size 149) := by show 0 < 149; decide
  have lt136 : 136 < xN (gx D T s.heap.size 149) := by show 136 < 149; decide
  refine lv_aload_n hx hb dL_law_1025 rfl (lv_at hl 1 rfl) ?_
  refine lv_aload_n hx hb dL_law_1026 rfl (lv_at hl 0 rfl) ?_
  refine lv_iload_n hx hb dL_law_1027 rfl (lv_at hl 3 rfl) ?_
  refine lv_iconst (v := nI 1) hx hb dL_law_1028 (by decide) ?_
  refine nv_add F dL_law_1029 ?_
  refine sc_ld F hX hbl hW (by omega) hL dL_law_1030 ?_
  refine cl_ie (cl_run (rest := []) F hW e_L_136 (k_again hI l (show 136 ≤ 149 by decide) hM hA hB ((xs (i + 1)))) ⟨Nat.le_of_ble_eq_true rfl, Nat.le_of_ble_eq_true rfl⟩ lt0 m0 rfl rfl rfl hl (Nat.le_of_ble_eq_true rfl) dL_law_1031 ⟨Nat.le_of_ble_eq_true rfl, Nat.le_of_ble_eq_true rfl⟩) hW (fun μ1 H locs q_1 hW => ?_)
  obtain ⟨hM1, ho1⟩ := q_1
  have hD1 := modX_off hD ho1
  have g136_1 := (ho1 136 (by omega)).trans g136
  have m0_1 := hM1.1
  refine lv_aload_n hx hb dL_law_1034 rfl (lv_at hl 2 rfl) ?_
  refine lv_aload_n hx hb dL_law_1035 rfl (lv_at hl 0 rfl) ?_
  refine lv_iload_n hx hb dL_law_1036 rfl (lv_at hl 3 rfl) ?_
  refine lv_iconst (v := nI 1) hx hb dL_law_1037 (by decide) ?_
  refine nv_add F dL_law_1038 ?_
  refine sc_ld F hX hbl hW (by omega) hL dL_law_1039 ?_
  refine cl_ie (cl_run (rest := [.int (r_again S ((xs (i + 1))))]) F hW e_L_139 (x_again hI l (show 149 ≤ 149 by decide) hD1 hA hm hB ((xs (i + 1)))) ⟨Nat.le_of_ble_eq_true rfl, Nat.le_of_ble_eq_true rfl⟩ lt136 g136_1 rfl rfl rfl hl (Nat.le_of_ble_eq_true rfl) dL_law_1040 ⟨Nat.le_of_ble_eq_true rfl, Nat.le_of_ble_eq_true rfl⟩) hW (fun μ2 H locs q_2 hW => ?_)
  obtain ⟨hD2, ho2⟩ := q_2
  have hM2 := mainR_off hM1 ho2
  refine lv_icmp_eq (tgt := 1071) hx hb dL_law_1043 (by decide) (fun c_3 => ?_) (fun c_3 => ?_)
  · skip
    exact kk (s_again S ((xs (i + 1)))) μ2 _ _ hM2 hD2 (n_again hA hm _) hW
  · skip
    exact absurd rfl c_3

set_option maxHeartbeats 4000000 in
set_option maxRecDepth 100000 in
theorem lc_count {p : Program} {l : Launch} {e : Env} {s : State} {m : MethodId} {below : List Frame} {meth : Method} {c : Code} {D : va_G} {T : Nat → ClassId} {b L i B : Nat} {xs : Nat → Int32} {S : AS} {μ : ME} {H : Heap} {locs : List Loc} {ls : Array Slot} {Q : State → Prop} (F : Fx (gx D T s.heap.size 149) p s m #[Value.ref b] c code 4 R_law) (hX : va_X b L xs s s.heap) (hbl : b < s.heap.size) (hL : L ≤ 2560) (hi : i + 5 ≤ L) (hM : mainR (gx D T s.heap.size 149) μ S) (hD : modX (gx D T s.heap.size 149) μ S (fun _ => True)) (hA : aok S B) (hm : mok S) (hB : B < 800000) (hW : St (gx D T s.heap.size 149) s μ H locs) (hl : lv_has ls 4 [(0, .ref b), (1, .ref (xa (gx D T s.heap.size 149) 0)), (2, .ref (xa (gx D T s.heap.size 149) 136)), (3, .int (nI i))]) (kk : ∀ (S1 : AS) (μ1 : ME) (H1 : Heap) (locs1 : List Loc), mainR (gx D T s.heap.size 149) μ1 S1 → modX (gx D T s.heap.size 149) μ1 S1 (fun _ => True) → nxt S1 B → St (gx D T s.heap.size 149) s μ1 H1 locs1 → W p l e room_1 s m #[Value.ref b] below meth c H1 locs1 149 1628 Q (F0 m 1071 ls [])) : W p l e room_1 s m #[Value.ref b] below meth c H locs 149 1628 Q (F0 m 1048 ls []) := by
  have hI := F.2.2
  have hx := F.1.1
  have hb := F.1.2.1
  have hts := F.1.2.2.2.2
  have m0 := hM.1
  obtain ⟨rh, nx, f1, fn, frd, ft, fo, fa, frw, fh, fu, fb, fz, fkp, g136, g137, g138, g139, g140, g141, g142, g143, g144, g145, g146, g147, g148, hg, hv, ht, hnx, hrw, hse, hkp, hTr⟩ := id hD
  have lt0 : 0 < xN (gx D T s.heap.size 149) := by show 0 < 149; decide
  have lt136 : 136 < xN (gx D T s.heap.size 149) := by show 136 < 149; decide
  refine lv_aload_n hx hb dL_law_1048 rfl (lv_at hl 1 rfl) ?_
  refine lv_aload_n hx hb dL_law_1049 rfl (lv_at hl 0 rfl) ?_
  refine lv_iload_n hx hb dL_law_1050 rfl (lv_at hl 3 rfl) ?_
  refine lv_iconst (v := nI 1) hx hb dL_law_1051 (by decide) ?_
  refine nv_add F dL_law_1052 ?_
  refine sc_ld F hX hbl hW (by omega) hL dL_law_1053 ?_
  refine cl_ie (cl_run (rest := []) F hW e_L_140 (k_count hI l (show 136 ≤ 149 by decide) hM hA hB ((xs (i + 1)))) ⟨Nat.le_of_ble_eq_true rfl, Nat.le_of_ble_eq_true rfl⟩ lt0 m0 rfl rfl rfl hl (Nat.le_of_ble_eq_true rfl) dL_law_1054 ⟨Nat.le_of_ble_eq_true rfl, Nat.le_of_ble_eq_true rfl⟩) hW (fun μ1 H locs q_1 hW => ?_)
  obtain ⟨hM1, ho1⟩ := q_1
  have hD1 := modX_off hD ho1
  have g136_1 := (ho1 136 (by omega)).trans g136
  have m0_1 := hM1.1
  refine lv_aload_n hx hb dL_law_1057 rfl (lv_at hl 2 rfl) ?_
  refine lv_aload_n hx hb dL_law_1058 rfl (lv_at hl 0 rfl) ?_
  refine lv_iload_n hx hb dL_law_1059 rfl (lv_at hl 3 rfl) ?_
  refine lv_iconst (v := nI 1) hx hb dL_law_1060 (by decide) ?_
  refine nv_add F dL_law_1061 ?_
  refine sc_ld F hX hbl hW (by omega) hL dL_law_1062 ?_
  refine cl_ie (cl_run (rest := [.int (r_count S ((xs (i + 1))))]) F hW e_L_143 (x_count hI l (show 149 ≤ 149 by decide) hD1 hA hm hB ((xs (i + 1)))) ⟨Nat.le_of_ble_eq_true rfl, Nat.le_of_ble_eq_true rfl⟩ lt136 g136_1 rfl rfl rfl hl (Nat.le_of_ble_eq_true rfl) dL_law_1063 ⟨Nat.le_of_ble_eq_true rfl, Nat.le_of_ble_eq_true rfl⟩) hW (fun μ2 H locs q_2 hW => ?_)
  obtain ⟨hD2, ho2⟩ := q_2
  have hM2 := mainR_off hM1 ho2
  refine lv_icmp_eq (tgt := 1071) hx hb dL_law_1066 (by decide) (fun c_3 => ?_) (fun c_3 => ?_)
  · skip
    exact kk S μ2 _ _ hM2 hD2 (n_same hA hm) hW
  · skip
    exact absurd rfl c_3
