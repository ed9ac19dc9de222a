set_option maxHeartbeats 4000000 in
set_option maxRecDepth 100000 in
theorem law_loop {p : Program} {l : Launch} {e : Env} {s : State} {m : MethodId} {below : List Frame} {meth : Method} {c : Code} {D : va_G} {T : Nat → ClassId} {b L : Nat} {xs : Nat → Int32} (hL : L ≤ 2560) (C0 : lw_At p s m meth c b L xs) (F : Fx (gx D T s.heap.size 149) p s m #[Value.ref b] c code 4 R_law) : ∀ (d i : Nat) (S : AS) (μ : ME) (H : Heap) (locs : List Loc) (ls : Array Slot), L ≤ i + d → i ≤ L → mainR (gx D T s.heap.size 149) μ S → modX (gx D T s.heap.size 149) μ S (fun _ => True) → aok S (120 * i + 600) → mok S → St (gx D T s.heap.size 149) s μ H locs → lv_has ls 4 [(0, .ref b), (1, .ref (xa (gx D T s.heap.size 149) 0)), (2, .ref (xa (gx D T s.heap.size 149) 136)), (3, .int (nI i))] → W p l e room_1 s m #[Value.ref b] below meth c H locs 149 1628 (lw_Z below #[Value.ref b] s) (F0 m 18 ls []) := by
  obtain ⟨hx, hb, hr, hml, hown, -, hX, hbl, hlocks, -⟩ := id C0
  intro d
  induction d with
  | zero =>
    intro i S μ H locs ls hd hiL hM hD hA hm hW hl
    refine lv_iload_n hx hb dL_law_18 rfl (lv_at hl 3 rfl) ?_
    refine lv_aload_n hx hb dL_law_19 rfl (lv_at hl 0 rfl) ?_
    refine sc_len F hX hbl hW dL_law_20 ?_
    refine lv_iconst (v := nI 5) hx hb dL_law_21 (by decide) ?_
    refine lv_isub hx hb dL_law_22 ?_
    refine lv_icmp_gt (tgt := 1077) hx hb dL_law_23 (by decide) (fun _ => ?_) (fun q => absurd ((l_gt (by omega) (by omega)).mpr (by omega)) q)
    refine lv_iconst (v := nI 1) hx hb dL_law_1077 (by decide) ?_
    refine va_forget (fun q hq => ?_) (W.widen (k := 600000) (n := 7302250) (Nat.le_of_ble_eq_true rfl) (Nat.le_of_ble_eq_true rfl) (lw_ret hx hb hr hlocks dL_law_1078))
    obtain ⟨i9, -, h9⟩ := hW.2.2.2 q hq
    have h9 : q.base = s.heap.size + i9 := h9
    exact Nat.le_trans (Nat.le_add_right _ i9) (Nat.le_of_eq h9.symm)
  | succ d ih =>
    intro i S μ H locs ls hd hiL hM hD hA hm hW hl
    refine lv_iload_n hx hb dL_law_18 rfl (lv_at hl 3 rfl) ?_
    refine lv_aload_n hx hb dL_law_19 rfl (lv_at hl 0 rfl) ?_
    refine sc_len F hX hbl hW dL_law_20 ?_
    refine lv_iconst (v := nI 5) hx hb dL_law_21 (by decide) ?_
    refine lv_isub hx hb dL_law_22 ?_
    refine lv_icmp_gt (tgt := 1077) hx hb dL_law_23 (by decide) (fun _ => ?_) (fun q => ?_)
    · skip
      refine lv_iconst (v := nI 1) hx hb dL_law_1077 (by decide) ?_
      refine va_forget (fun q hq => ?_) (W.widen (k := 600000) (n := 7302250) (Nat.le_of_ble_eq_true rfl) (Nat.le_of_ble_eq_true rfl) (lw_ret hx hb hr hlocks dL_law_1078))
      obtain ⟨i9, -, h9⟩ := hW.2.2.2 q hq
      have h9 : q.base = s.heap.size + i9 := h9
      exact Nat.le_trans (Nat.le_add_right _ i9) (Nat.le_of_eq h9.symm)
    have hi5 : i + 5 ≤ L := (Nat.lt_or_ge L (i + 5)).elim (fun z => absurd ((l_gt (show L < 100000 by omega) (show i < 100000 by omega)).mpr z) q) (fun z => z)
    have kk : ∀ (S1 : AS) (μ1 : ME) (H1 : Heap) (locs1 : List Loc), mainR (gx D T s.heap.size 149) μ1 S1 → modX (gx D T s.heap.size 149) μ1 S1 (fun _ => True) → nxt S1 (120 * i + 600) → St (gx D T s.heap.size 149) s μ1 H1 locs1 → W p l e room_1 s m #[Value.ref b] below meth c H1 locs1 149 1628 (lw_Z below #[Value.ref b] s) (F0 m 1071 ls []) := by
      intro S1 μ1 H1 locs1 hM1 hD1 hn1 hW1
      refine lv_iinc (v := nI (i + 5)) (lv' := [(3, .int (nI (i + 5))), (0, .ref b), (1, .ref (xa (gx D T s.heap.size 149) 0)), (2, .ref (xa (gx D T s.heap.size 149) 136))]) hx hb dL_law_1071 hl (k := 3) rfl (nI_add _ _) (by decide) rfl (fun ls hl => ?_)
      refine lv_goto (tgt := 18) hx hb dL_law_1074 (by decide) ?_
      exact ih (i + 5) S1 μ1 H1 locs1 ls (by omega) hi5 hM1 hD1 (by rw [show 120 * (i + 5) + 600 = 120 * i + 600 + 600 by omega]; exact hn1.1) hn1.2 hW1 (lv_sub hl [1, 2, 3, 0] rfl)
    refine lv_aload_n hx hb dL_law_26 rfl (lv_at hl 0 rfl) ?_
    refine lv_iload_n hx hb dL_law_27 rfl (lv_at hl 3 rfl) ?_
    refine sc_ld F hX hbl hW (by omega) hL dL_law_28 ?_
    refine lv_bipush (v := nI 31) hx hb dL_law_29 (by decide) ?_
    refine lv_iand hx hb dL_law_31 ?_
    obtain ⟨k, hk, ek⟩ := and31 (xs i)
    refine nv_top ek ?_
    rcases (show k = 0 ∨ k = 1 ∨ k = 2 ∨ k = 3 ∨ k = 4 ∨ k = 5 ∨ k = 6 ∨ k = 7 ∨ k = 8 ∨ k = 9 ∨ k = 10 ∨ k = 11 ∨ k = 12 ∨ k = 13 ∨ k = 14 ∨ k = 15 ∨ k = 16 ∨ k = 17 ∨ k = 18 ∨ k = 19 ∨ k = 20 ∨ k = 21 ∨ k = 22 ∨ k = 23 ∨ k = 24 ∨ k = 25 ∨ k = 26 ∨ k = 27 ∨ k = 28 ∨ k = 29 ∨ k = 30 ∨ k = 31 by omega) with rfl | rfl | rfl | rfl | rfl | rfl | rfl | rfl | rfl | rfl | rfl | rfl | rfl | rfl | rfl | rfl | rfl | rfl | rfl | rfl | rfl | rfl | rfl | rfl | rfl | rfl | rfl | rfl | rfl | rfl | rfl | rfl
    · skip
      refine lv_tableIn (tgt := 168) hx hb dL_law_32 (by decide) (by decide) rfl (by decide) ?_
      exact lc_write F hX hbl hL hi5 hM hD hA hm (by omega) hW hl kk
    · skip
      refine lv_tableIn (tgt := 191) hx hb dL_law_32 (by decide) (by decide) rfl (by decide) ?_
      exact lc_wipe F hX hbl hL hi5 hM hD hA hm (by omega) hW hl kk
    · skip
      refine lv_tableIn (tgt := 204) hx hb dL_law_32 (by decide) (by decide) rfl (by decide) ?_
      exact lc_fault F hX hbl hL hi5 hM hD hA hm (by omega) hW hl kk
    · skip
      refine lv_tableIn (tgt := 217) hx hb dL_law_32 (by decide) (by decide) rfl (by decide) ?_
      exact lc_lane F hX hbl hL hi5 hM hD hA hm (by omega) hW hl kk
    · skip
      refine lv_tableIn (tgt := 230) hx hb dL_law_32 (by decide) (by decide) rfl (by decide) ?_
      exact lc_house F hX hbl hL hi5 hM hD hA hm (by omega) hW hl kk
    · skip
      refine lv_tableIn (tgt := 263) hx hb dL_law_32 (by decide) (by decide) rfl (by decide) ?_
      exact lc_hour F hX hbl hL hi5 hM hD hA hm (by omega) hW hl kk
    · skip
      refine lv_tableIn (tgt := 276) hx hb dL_law_32 (by decide) (by decide) rfl (by decide) ?_
      exact lc_bring F hX hbl hL hi5 hM hD hA hm (by omega) hW hl kk
    · skip
      refine lv_tableIn (tgt := 309) hx hb dL_law_32 (by decide) (by decide) rfl (by decide) ?_
      exact lc_take F hX hbl hL hi5 hM hD hA hm (by omega) hW hl kk
    · skip
      refine lv_tableIn (tgt := 342) hx hb dL_law_32 (by decide) (by decide) rfl (by decide) ?_
      exact lc_deed F hX hbl hL hi5 hM hD hA hm (by omega) hW hl kk
    · skip
      refine lv_tableIn (tgt := 375) hx hb dL_law_32 (by decide) (by decide) rfl (by decide) ?_
      exact lc_build F hX hbl hL hi5 hM hD hA hm (by omega) hW hl kk
    · skip
      refine lv_tableIn (tgt := 398) hx hb dL_law_32 (by decide) (by decide) rfl (by decide) ?_
      exact lc_undo F hX hbl hL hi5 hM hD hA hm (by omega) hW hl kk
    · skip
      refine lv_tableIn (tgt := 411) hx hb dL_law_32 (by decide) (by decide) rfl (by decide) ?_
      exact lc_later F hX hbl hL hi5 hM hD hA hm (by omega) hW hl kk
    · skip
      refine lv_tableIn (tgt := 454) hx hb dL_law_32 (by decide) (by decide) rfl (by decide) ?_
      exact lc_standing F hX hbl hL hi5 hM hD hA hm (by omega) hW hl kk
    · skip
      refine lv_tableIn (tgt := 477) hx hb dL_law_32 (by decide) (by decide) rfl (by decide) ?_
      exact lc_falls F hX hbl hL hi5 hM hD hA hm (by omega) hW hl kk
    · skip
      refine lv_tableIn (tgt := 500) hx hb dL_law_32 (by decide) (by decide) rfl (by decide) ?_
      exact lc_rings F hX hbl hL hi5 hM hD hA hm (by omega) hW hl kk
    · skip
      refine lv_tableIn (tgt := 513) hx hb dL_law_32 (by decide) (by decide) rfl (by decide) ?_
      exact lc_orders F hX hbl hL hi5 hM hD hA hm (by omega) hW hl kk
    · skip
      refine lv_tableIn (tgt := 586) hx hb dL_law_32 (by decide) (by decide) rfl (by decide) ?_
      exact lc_piano F hX hbl hL hi5 hM hD hA hm (by omega) hW hl kk
    · skip
      refine lv_tableIn (tgt := 609) hx hb dL_law_32 (by decide) (by decide) rfl (by decide) ?_
      exact lc_sacks F hX hbl hL hi5 hM hD hA hm (by omega) hW hl kk
    · skip
      refine lv_tableIn (tgt := 632) hx hb dL_law_32 (by decide) (by decide) rfl (by decide) ?_
      exact lc_judge F hX hbl hL hi5 hM hD hA hm (by omega) hW hl kk
    · skip
      refine lv_tableIn (tgt := 695) hx hb dL_law_32 (by decide) (by decide) rfl (by decide) ?_
      exact lc_see F hX hbl hL hi5 hM hD hA hm (by omega) hW hl kk
    · skip
      refine lv_tableIn (tgt := 738) hx hb dL_law_32 (by decide) (by decide) rfl (by decide) ?_
      exact lc_unsee F hX hbl hL hi5 hM hD hA hm (by omega) hW hl kk
    · skip
      refine lv_tableIn (tgt := 751) hx hb dL_law_32 (by decide) (by decide) rfl (by decide) ?_
      exact lc_night F hX hbl hL hi5 hM hD hA hm (by omega) hW hl kk
    · skip
      refine lv_tableIn (tgt := 774) hx hb dL_law_32 (by decide) (by decide) rfl (by decide) ?_
      exact lc_share F hX hbl hL hi5 hM hD hA hm (by omega) hW hl kk
    · skip
      refine lv_tableIn (tgt := 823) hx hb dL_law_32 (by decide) (by decide) rfl (by decide) ?_
      exact lc_rests F hX hbl hL hi5 hM hD hA hm (by omega) hW hl kk
    · skip
      refine lv_tableIn (tgt := 866) hx hb dL_law_32 (by decide) (by decide) rfl (by decide) ?_
      exact lc_fails F hX hbl hL hi5 hM hD hA hm (by omega) hW hl kk
    · skip
      refine lv_tableIn (tgt := 925) hx hb dL_law_32 (by decide) (by decide) rfl (by decide) ?_
      exact lc_seed F hX hbl hL hi5 hM hD hA hm (by omega) hW hl kk
    · skip
      refine lv_tableIn (tgt := 979) hx hb dL_law_32 (by decide) (by decide) rfl (by decide) ?_
      exact lc_years F hX hbl hL hi5 hM hD hA hm (by omega) hW hl kk
    · skip
      refine lv_tableIn (tgt := 1002) hx hb dL_law_32 (by decide) (by decide) rfl (by decide) ?_
      exact lc_keep F hX hbl hL hi5 hM hD hA hm (by omega) hW hl kk
    · skip
      refine lv_tableIn (tgt := 1025) hx hb dL_law_32 (by decide) (by decide) rfl (by decide) ?_
      exact lc_again F hX hbl hL hi5 hM hD hA hm (by omega) hW hl kk
    · skip
      refine lv_tableIn (tgt := 1048) hx hb dL_law_32 (by decide) (by decide) rfl (by decide) ?_
      exact lc_count F hX hbl hL hi5 hM hD hA hm (by omega) hW hl kk
    · skip
      refine lv_tableOut (tgt := 1071) hx hb dL_law_32 (by decide) (by decide) ?_
      exact kk S μ H locs hM hD (n_same hA hm) hW
    · skip
      refine lv_tableOut (tgt := 1071) hx hb dL_law_32 (by decide) (by decide) ?_
      exact kk S μ H locs hM hD (n_same hA hm) hW
