set_option maxHeartbeats 4000000 in
set_option maxRecDepth 100000 in
theorem c_has {cx : CX} (hI : xI cx) (l : Launch) {μ : ME} {b : Nat} {L : LN} {B : Nat} (hb7 : b + 7 ≤ xN cx) (hL : laneR cx μ b L) (hk : lok L B) (h : Int32) : MT cx l yX0_has cX0_has 2 (some .boolean) 0 0 [.ref (xa cx b), .int h] μ (Pi cx μ (b2 (inR h (Ln L)))) := by
  refine mt_of hI (by decide) (Nat.le_of_ble_eq_true rfl) ?_
  intro p e s m below meth c ls F hr hlk hW hl
  have hx := F.1.1
  have hb := F.1.2.1
  have hts := F.1.2.2.2.2
  obtain ⟨fk, fs, fg, fd, fl, fc, h0, h1, h2, h3, h4, h5, h6, hv, hv2⟩ := id hL
  have hn6 := hk.1
  have hU := lok_U hk
  have hl : lv_has ls 2 [(0, .ref (xa cx b)), (1, .int h)] := hl
  refine lv_iload_n hx hb dX0_has_0 rfl (lv_at hl 1 rfl) ?_
  refine lv_if_lt (tgt := 16) hx hb dX0_has_1 (by decide) (fun c_1 => ?_) (fun c_1 => ?_)
  · skip
    refine lv_iconst (v := nI 0) hx hb dX0_has_16 (by decide) ?_
    exact rt_zp F hr hlk hW (by first | (rw [inR_neg (by assumption)]; rfl) | (rw [inR_ge (by omega) (by assumption)]; rfl)) rfl dX0_has_17
  · skip
    refine lv_iload_n hx hb dX0_has_4 rfl (lv_at hl 1 rfl) ?_
    refine lv_aload_n hx hb dX0_has_5 rfl (lv_at hl 0 rfl) ?_
    refine nv_get F hW (by omega) h0 rfl iX0 6 (by decide) tw_87 rfl dX0_has_6 ?_
    refine lv_icmp_ge (tgt := 16) hx hb dX0_has_9 (by decide) (fun c_2 => ?_) (fun c_2 => ?_)
    · skip
      refine lv_iconst (v := nI 0) hx hb dX0_has_16 (by decide) ?_
      exact rt_zp F hr hlk hW (by first | (rw [inR_neg (by assumption)]; rfl) | (rw [inR_ge (by omega) (by assumption)]; rfl)) rfl dX0_has_17
    · skip
      refine lv_iconst (v := nI 1) hx hb dX0_has_12 (by decide) ?_
      refine lv_goto (tgt := 17) hx hb dX0_has_13 (by decide) ?_
      exact rt_zp F hr hlk hW (by rw [inR_in (by omega) c_1 c_2]; rfl) rfl dX0_has_17

def lstI (L : LN) (h : Int32) : Bool := inR h (Ln L) && (LU L).testBit h.toNatClampNeg
theorem lstI_nI {L : LN} {j : Nat} (hj : j < 2147483648) : lstI L (nI j) = lst L j := by
  unfold lstI lst
  rw [inR_nI hj, nI_clamp hj]

set_option maxHeartbeats 4000000 in
set_option maxRecDepth 100000 in
theorem c_stands {cx : CX} (hI : xI cx) (l : Launch) {μ : ME} {b : Nat} {L : LN} {B : Nat} (hb7 : b + 7 ≤ xN cx) (hL : laneR cx μ b L) (hk : lok L B) (h : Int32) : MT cx l yX0_stands cX0_stands 2 (some .boolean) 0 0 [.ref (xa cx b), .int h] μ (Pi cx μ (b2 (lstI L h))) := by
  refine mt_of hI (by decide) (Nat.le_of_ble_eq_true rfl) ?_
  intro p e s m below meth c ls F hr hlk hW hl
  have hx := F.1.1
  have hb := F.1.2.1
  have hts := F.1.2.2.2.2
  obtain ⟨fk, fs, fg, fd, fl, fc, h0, h1, h2, h3, h4, h5, h6, hv, hv2⟩ := id hL
  have hn6 := hk.1
  have hU := lok_U hk
  have hl : lv_has ls 2 [(0, .ref (xa cx b)), (1, .int h)] := hl
  refine lv_iload_n hx hb dX0_stands_0 rfl (lv_at hl 1 rfl) ?_
  refine lv_if_lt (tgt := 28) hx hb dX0_stands_1 (by decide) (fun c_1 => ?_) (fun c_1 => ?_)
  · skip
    refine lv_iconst (v := nI 0) hx hb dX0_stands_28 (by decide) ?_
    exact rt_zp F hr hlk hW (by unfold lstI; first | (rw [inR_neg (by assumption)]; rfl) | (rw [inR_ge (by omega) (by assumption)]; rfl) | (rw [nI_clamp (by omega), c_3, Bool.and_false]; rfl)) rfl dX0_stands_29
  · skip
    refine lv_iload_n hx hb dX0_stands_4 rfl (lv_at hl 1 rfl) ?_
    refine lv_aload_n hx hb dX0_stands_5 rfl (lv_at hl 0 rfl) ?_
    refine nv_get F hW (by omega) h0 rfl iX0 6 (by decide) tw_87 rfl dX0_stands_6 ?_
    refine lv_icmp_ge (tgt := 28) hx hb dX0_stands_9 (by decide) (fun c_2 => ?_) (fun c_2 => ?_)
    · skip
      refine lv_iconst (v := nI 0) hx hb dX0_stands_28 (by decide) ?_
      exact rt_zp F hr hlk hW (by unfold lstI; first | (rw [inR_neg (by assumption)]; rfl) | (rw [inR_ge (by omega) (by assumption)]; rfl) | (rw [nI_clamp (by omega), c_3, Bool.and_false]; rfl)) rfl dX0_stands_29
    · skip
      obtain ⟨j, hj, rfl⟩ := inR_of (inR_in (n := Ln L) (by omega) c_1 c_2) (by omega)
      refine lv_aload_n hx hb dX0_stands_12 rfl (lv_at hl 0 rfl) ?_
      refine nv_get F hW (by omega) h0 rfl iX0 7 (by decide) tw_88 rfl dX0_stands_13 ?_
      refine lv_iload_n hx hb dX0_stands_16 rfl (lv_at hl 1 rfl) ?_
      refine nv_shr F (by omega) (by omega) dX0_stands_17 ?_
      refine lv_iconst (v := nI 1) hx hb dX0_stands_18 (by decide) ?_
      refine nv_and F dX0_stands_19 ?_
      refine nv_top (y := ((b2 ((LU L).testBit j)))) (bit_b2 _ _) ?_
      refine lv_iconst (v := nI 1) hx hb dX0_stands_20 (by decide) ?_
      refine nv_b1ne (tgt := 28) F dX0_stands_21 (by decide) (fun c_3 => ?_) (fun c_3 => ?_)
      · skip
        refine lv_iconst (v := nI 0) hx hb dX0_stands_28 (by decide) ?_
        exact rt_zp F hr hlk hW (by unfold lstI; first | (rw [inR_neg (by assumption)]; rfl) | (rw [inR_ge (by omega) (by assumption)]; rfl) | (rw [nI_clamp (by omega), c_3, Bool.and_false]; rfl)) rfl dX0_stands_29
      · skip
        refine lv_iconst (v := nI 1) hx hb dX0_stands_24 (by decide) ?_
        refine lv_goto (tgt := 29) hx hb dX0_stands_25 (by decide) ?_
        exact rt_zp F hr hlk hW (by rw [lstI_nI (by omega)]; unfold lst; rw [decide_eq_true hj, c_3]; rfl) rfl dX0_stands_29

set_option maxHeartbeats 4000000 in
set_option maxRecDepth 100000 in
theorem c_size {cx : CX} (hI : xI cx) (l : Launch) {μ : ME} {b : Nat} {L : LN} {B : Nat} (hb7 : b + 7 ≤ xN cx) (hL : laneR cx μ b L) (hk : lok L B) : MT cx l yX0_size cX0_size 1 (some .int) 0 0 [.ref (xa cx b)] μ (Pi cx μ (nI (Ln L))) := by
  refine mt_of hI (by decide) (Nat.le_of_ble_eq_true rfl) ?_
  intro p e s m below meth c ls F hr hlk hW hl
  have hx := F.1.1
  have hb := F.1.2.1
  have hts := F.1.2.2.2.2
  obtain ⟨fk, fs, fg, fd, fl, fc, h0, h1, h2, h3, h4, h5, h6, hv, hv2⟩ := id hL
  have hn6 := hk.1
  have hU := lok_U hk
  have hl : lv_has ls 1 [(0, .ref (xa cx b))] := hl
  refine lv_aload_n hx hb dX0_size_0 rfl (lv_at hl 0 rfl) ?_
  refine nv_get F hW (by omega) h0 rfl iX0 6 (by decide) tw_87 rfl dX0_size_1 ?_
  exact rt_ip F hr hlk hW rfl rfl dX0_size_4

set_option maxHeartbeats 4000000 in
set_option maxRecDepth 100000 in
theorem c_standingBits {cx : CX} (hI : xI cx) (l : Launch) {μ : ME} {b : Nat} {L : LN} {B : Nat} (hb7 : b + 7 ≤ xN cx) (hL : laneR cx μ b L) (hk : lok L B) : MT cx l yX0_standingBits cX0_standingBits 1 (some .int) 0 0 [.ref (xa cx b)] μ (Pi cx μ (nI (LU L))) := by
  refine mt_of hI (by decide) (Nat.le_of_ble_eq_true rfl) ?_
  intro p e s m below meth c ls F hr hlk hW hl
  have hx := F.1.1
  have hb := F.1.2.1
  have hts := F.1.2.2.2.2
  obtain ⟨fk, fs, fg, fd, fl, fc, h0, h1, h2, h3, h4, h5, h6, hv, hv2⟩ := id hL
  have hn6 := hk.1
  have hU := lok_U hk
  have hl : lv_has ls 1 [(0, .ref (xa cx b))] := hl
  refine lv_aload_n hx hb dX0_standingBits_0 rfl (lv_at hl 0 rfl) ?_
  refine nv_get F hW (by omega) h0 rfl iX0 7 (by decide) tw_88 rfl dX0_standingBits_1 ?_
  exact rt_ip F hr hlk hW rfl rfl dX0_standingBits_4

set_option maxHeartbeats 4000000 in
set_option maxRecDepth 100000 in
theorem c_hoursPassed {cx : CX} (hI : xI cx) (l : Launch) {μ : ME} {b : Nat} {L : LN} {B : Nat} (hb7 : b + 7 ≤ xN cx) (hL : laneR cx μ b L) (hk : lok L B) : MT cx l yX0_hoursPassed cX0_hoursPassed 1 (some .int) 0 0 [.ref (xa cx b)] μ (Pi cx μ (nI (Lh L))) := by
  refine mt_of hI (by decide) (Nat.le_of_ble_eq_true rfl) ?_
  intro p e s m below meth c ls F hr hlk hW hl
  have hx := F.1.1
  have hb := F.1.2.1
  have hts := F.1.2.2.2.2
  obtain ⟨fk, fs, fg, fd, fl, fc, h0, h1, h2, h3, h4, h5, h6, hv, hv2⟩ := id hL
  have hn6 := hk.1
  have hU := lok_U hk
  have hl : lv_has ls 1 [(0, .ref (xa cx b))] := hl
  refine lv_aload_n hx hb dX0_hoursPassed_0 rfl (lv_at hl 0 rfl) ?_
  refine nv_get F hW (by omega) h0 rfl iX0 8 (by decide) tw_89 rfl dX0_hoursPassed_1 ?_
  exact rt_ip F hr hlk hW rfl rfl dX0_hoursPassed_4

set_option maxHeartbeats 4000000 in
set_option maxRecDepth 100000 in
theorem c_given {cx : CX} (hI : xI cx) (l : Launch) {μ : ME} (k : Nat) (x : Int32) (hk : k ≤ 4) : MT cx l yX0_given cX0_given 2 (some .int) 0 0 [.int (nI k), .int x] μ (Pi cx μ (gvI k x)) := by
  refine mt_of hI (by decide) (Nat.le_of_ble_eq_true rfl) ?_
  intro p e s m below meth c ls F hr hlk hW hl
  have hx := F.1.1
  have hb := F.1.2.1
  have hts := F.1.2.2.2.2
  have hl : lv_has ls 2 [(0, .int (nI k)), (1, .int x)] := hl
  rcases (show k = 0 ∨ k = 1 ∨ k = 2 ∨ k = 3 ∨ k = 4 by omega) with rfl | rfl | rfl | rfl | rfl
  · skip
    refine lv_iload_n hx hb dX0_given_0 rfl (lv_at hl 0 rfl) ?_
    refine lv_tableIn (tgt := 32) hx hb dX0_given_1 (by decide) (by decide) rfl (by decide) ?_
    refine lv_iload_n hx hb dX0_given_32 rfl (lv_at hl 1 rfl) ?_
    refine lv_iconst (v := nI 2) hx hb dX0_given_33 (by decide) ?_
    refine lv_idiv hx hb dX0_given_34 (by decide) ?_
    exact rt_ip F hr hlk hW (by first | rfl | (simp [gvI, *])) rfl dX0_given_35
  · skip
    refine lv_iload_n hx hb dX0_given_0 rfl (lv_at hl 0 rfl) ?_
    refine lv_tableIn (tgt := 36) hx hb dX0_given_1 (by decide) (by decide) rfl (by decide) ?_
    refine lv_iload_n hx hb dX0_given_36 rfl (lv_at hl 1 rfl) ?_
    refine lv_iconst (v := nI 3) hx hb dX0_given_37 (by decide) ?_
    refine lv_icmp_le (tgt := 47) hx hb dX0_given_38 (by decide) (fun c_1 => ?_) (fun c_1 => ?_)
    · skip
      refine lv_iconst (v := nI 0) hx hb dX0_given_47 (by decide) ?_
      exact rt_ip F hr hlk hW (by first | rfl | (simp [gvI, *])) rfl dX0_given_48
    · skip
      refine lv_iload_n hx hb dX0_given_41 rfl (lv_at hl 1 rfl) ?_
      refine lv_iconst (v := nI 3) hx hb dX0_given_42 (by decide) ?_
      refine lv_isub hx hb dX0_given_43 ?_
      refine lv_goto (tgt := 48) hx hb dX0_given_44 (by decide) ?_
      exact rt_ip F hr hlk hW (by first | rfl | (simp [gvI, *])) rfl dX0_given_48
  · skip
    refine lv_iload_n hx hb dX0_given_0 rfl (lv_at hl 0 rfl) ?_
    refine lv_tableIn (tgt := 55) hx hb dX0_given_1 (by decide) (by decide) rfl (by decide) ?_
    refine lv_iconst (v := nI 0) hx hb dX0_given_55 (by decide) ?_
    exact rt_ip F hr hlk hW (by first | rfl | (simp [gvI, *])) rfl dX0_given_56
  · skip
    refine lv_iload_n hx hb dX0_given_0 rfl (lv_at hl 0 rfl) ?_
    refine lv_tableIn (tgt := 49) hx hb dX0_given_1 (by decide) (by decide) rfl (by decide) ?_
    refine lv_iload_n hx hb dX0_given_49 rfl (lv_at hl 1 rfl) ?_
    refine lv_iload_n hx hb dX0_given_50 rfl (lv_at hl 1 rfl) ?_
    refine lv_iconst (v := nI 2) hx hb dX0_given_51 (by decide) ?_
    refine lv_idiv hx hb dX0_given_52 (by decide) ?_
    refine lv_isub hx hb dX0_given_53 ?_
    exact rt_ip F hr hlk hW (by first | rfl | (simp [gvI, *])) rfl dX0_given_54
  · skip
    refine lv_iload_n hx hb dX0_given_0 rfl (lv_at hl 0 rfl) ?_
    refine lv_tableOut (tgt := 55) hx hb dX0_given_1 (by decide) (by decide) ?_
    refine lv_iconst (v := nI 0) hx hb dX0_given_55 (by decide) ?_
    exact rt_ip F hr hlk hW (by first | rfl | (simp [gvI, *])) rfl dX0_given_56
