def r_keep (S : AS) (q : Int32) : Int32 := if inR q 2 then nI (Lh (AL S)) else -1
def s_keep (S : AS) (q : Int32) : AS := if inR q 2 then uK S (Ak S ||| 2 ^ q.toNatClampNeg) (fun j => if j = q.toNatClampNeg then AL S else AK S j) else S
def r_again (S : AS) (q : Int32) : Int32 := if inR q 2 then (if (Ak S).testBit q.toNatClampNeg then nI (Lh (AK S q.toNatClampNeg)) else -3) else -1
def s_again (S : AS) (q : Int32) : AS := if inR q 2 && (Ak S).testBit q.toNatClampNeg then uL S (AK S q.toNatClampNeg) (AP S) 0 else S
def cntN (S : AS) (q : Nat) : Int32 := if q = 0 then nI (An S) else if q = 1 then nI (Ln (AL S)) else if q = 2 then nI (LU (AL S)) else if q = 3 then nI (Lh (AL S)) else if q = 4 then nI (sumTo (Ls (AL S)) (Ln (AL S))) else if q = 5 then nI (sumTo (lgr (AL S)) (Ln (AL S))) else if q = 6 then nI (sumTo (fun h => if Ld (AL S) h = 2 then lgi (AL S) h else 0) (Ln (AL S))) else if q = 7 then nI (Az S) else nI (Ay S)
def r_count (S : AS) (w : Int32) : Int32 := if inR w 9 then cntN S w.toNatClampNeg else -2
theorem in2 {x : Int32} (c : ¬ x < 0) (d : x < nI 2) : inR x 2 = true := inR_in (by decide) c (by rw [Int32.le_iff_toInt_le]; rw [Int32.lt_iff_toInt_lt] at d; omega)
theorem in2f {x : Int32} (d : ¬ x < nI 2) : inR x 2 = false := inR_ge (by decide) (by rw [Int32.le_iff_toInt_le]; rw [Int32.lt_iff_toInt_lt] at d; omega)

set_option maxHeartbeats 4000000 in
set_option maxRecDepth 100000 in
theorem k_keep {cx : CX} (hI : xI cx) (l : Launch) {μ : ME} {S : AS} {B : Nat} (hN : 136 ≤ xN cx) (hM : mainR cx μ S) (hA : aok S B) (hB : B < 800000) (q : Int32) : MT cx l yX4_keep cX4_keep 2 (some .int) 2 93 [.ref (xa cx 0), .int q] μ (Ei cx (r_keep S q) (fun μ1 => mainR cx μ1 (s_keep S q) ∧ off 0 136 μ μ1)) := by
  refine mt_of hI (by decide) (Nat.le_of_ble_eq_true rfl) ?_
  intro p e s m below meth c ls F hr hlk hW hl
  have hx := F.1.1
  have hb := F.1.2.1
  have hts := F.1.2.2.2.2
  obtain ⟨m0, hT, hL, ⟨LT, hLT⟩, hPa, hSe, hSl⟩ := id hM
  have hk := hA.2.1
  have hn6 := hk.1
  have h3b : 3 + 7 ≤ xN cx := by omega
  have h10b : 10 + 7 ≤ xN cx := by omega
  obtain ⟨_, _, _, _, _, _, o3, -⟩ := id hL
  obtain ⟨_, _, _, _, _, _, o10, -⟩ := id hLT
  obtain ⟨_, o1, -⟩ := id hT
  obtain ⟨_, _, o17, -⟩ := id hPa
  obtain ⟨_, _, _, o117, -⟩ := id hSe
  obtain ⟨⟨gs, o121, hgs⟩, hsl2, hsl3⟩ := id hSl
  have hl : lv_has ls 2 [(0, .ref (xa cx 0)), (1, .int q)] := hl
  refine lv_iload_n hx hb dX4_keep_0 rfl (lv_at hl 1 rfl) ?_
  refine lv_if_lt (tgt := 9) hx hb dX4_keep_1 (by decide) (fun c_1 => ?_) (fun c_1 => ?_)
  · skip
    refine lv_iconst (v := (-1)) hx hb dX4_keep_9 (by decide) ?_
    have hir : inR q 2 = false := by first | exact inR_neg (by assumption) | exact in2f (by assumption)
    exact rt_ie F hr hlk hW (by unfold r_keep; rw [hir]; rfl) ⟨by unfold s_keep; rw [hir]; exact hM, off_rf⟩ dX4_keep_10
  · skip
    refine lv_iload_n hx hb dX4_keep_4 rfl (lv_at hl 1 rfl) ?_
    refine lv_iconst (v := nI 2) hx hb dX4_keep_5 (by decide) ?_
    refine lv_icmp_lt (tgt := 11) hx hb dX4_keep_6 (by decide) (fun c_2 => ?_) (fun c_2 => ?_)
    · skip
      obtain ⟨j, hj, rfl⟩ := inR_of (in2 c_1 c_2) (by omega)
      refine lv_aload_n hx hb dX4_keep_11 rfl (lv_at hl 0 rfl) ?_
      refine nv_get F hW (by omega) m0 rfl iX4 5 (by decide) tw_153 rfl dX4_keep_12 ?_
      refine lv_iload_n hx hb dX4_keep_15 rfl (lv_at hl 1 rfl) ?_
      obtain ⟨Lj, hLj⟩ := hsl2 j hj
      obtain ⟨_, _, _, _, _, _, oj, -⟩ := id hLj
      refine nv_aaldN F hW (by omega) o121 (by omega) (by decide) (hgs j hj) dX4_keep_16 ?_
      refine lv_aload_n hx hb dX4_keep_17 rfl (lv_at hl 0 rfl) ?_
      refine nv_get F hW (by omega) m0 rfl iX4 1 (by decide) tw_149 rfl dX4_keep_18 ?_
      refine cl_v (cl_run (rest := []) F hW e_X4_138 (c_copyFrom hI l (by omega) h3b (by omega) hLj hL hk.1) ⟨Nat.le_of_ble_eq_true rfl, Nat.le_of_ble_eq_true rfl⟩ (by omega) oj rfl rfl rfl hl (Nat.le_of_ble_eq_true rfl) dX4_keep_21 ⟨Nat.zero_le _, Nat.zero_le _⟩) hW (fun μ3 H locs q_3 hW => ?_)
      obtain ⟨hLs, hos⟩ := q_3
      have o0_s := (hos 0 (by omega)).trans m0
      have o1_s := (hos 1 (by omega)).trans o1
      have o3_s := (hos 3 (by omega)).trans o3
      have o10_s := (hos 10 (by omega)).trans o10
      have o17_s := (hos 17 (by omega)).trans o17
      have o117_s := (hos 117 (by omega)).trans o117
      have o121_s := (hos 121 (by omega)).trans o121
      have hLx3_s := laneR_off hL hos (by omega)
      have hLx10_s := laneR_off hLT hos (by omega)
      refine lv_aload_n hx hb dX4_keep_24 rfl (lv_at hl 0 rfl) ?_
      refine lv_dup hx hb dX4_keep_25 rfl ?_
      refine nv_get F hW (by omega) o0_s rfl iX4 6 (by decide) tw_154 rfl dX4_keep_26 ?_
      refine lv_iconst (v := nI 1) hx hb dX4_keep_29 (by decide) ?_
      refine lv_iload_n hx hb dX4_keep_30 rfl (lv_at hl 1 rfl) ?_
      refine nv_shl F (by omega) (pow2_lt (by omega)) dX4_keep_31 ?_
      refine nv_top (y := ((nI (2 ^ j)))) (by rw [Nat.one_mul]) ?_
      refine nv_or F dX4_keep_32 ?_
      refine nv_put F hW (by omega) o0_s rfl iX4 tyX4 tyX4_ok nmX4 6 (by decide) tw_154 rfl rfl rfl (Nat.le_of_ble_eq_true rfl) dX4_keep_33 (fun H locs hW => ?_)
      obtain ⟨μ4, eμ4⟩ : ∃ zz9 : ME, zz9 = va_up μ3 0 (.inr (4, [.ref (xa cx 1), .ref (xa cx 3), .ref (xa cx 10), .ref (xa cx 17), .ref (xa cx 117), .ref (xa cx 121), .int (nI ((Ak S) ||| (2 ^ j))), .long (Ad S)])) := ⟨_, rfl⟩
      have hW : St cx s μ4 H locs := by rw [eμ4]; exact hW
      have h0_4 : μ4 0 = .inr (4, [.ref (xa cx 1), .ref (xa cx 3), .ref (xa cx 10), .ref (xa cx 17), .ref (xa cx 117), .ref (xa cx 121), .int (nI ((Ak S) ||| (2 ^ j))), .long (Ad S)]) := by rw [eμ4, va_up_self]
      have h1_4 := (congrFun eμ4 1).trans ((va_up_ne _ _ (by omega)).trans o1_s)
      have h3_4 := (congrFun eμ4 3).trans ((va_up_ne _ _ (by omega)).trans o3_s)
      have h10_4 := (congrFun eμ4 10).trans ((va_up_ne _ _ (by omega)).trans o10_s)
      have h17_4 := (congrFun eμ4 17).trans ((va_up_ne _ _ (by omega)).trans o17_s)
      have h117_4 := (congrFun eμ4 117).trans ((va_up_ne _ _ (by omega)).trans o117_s)
      have h121_4 := (congrFun eμ4 121).trans ((va_up_ne _ _ (by omega)).trans o121_s)
      have hou4 : off 0 1 μ3 μ4 := fun z hz => by rw [eμ4, va_up_ne _ _ (by omega)]
      have hLu3_4 := laneR_off hLx3_s hou4 (by omega)
      have hLu10_4 := laneR_off hLx10_s hou4 (by omega)
      refine lv_aload_n hx hb dX4_keep_36 rfl (lv_at hl 0 rfl) ?_
      refine nv_get F hW (by omega) h0_4 rfl iX4 1 (by decide) tw_149 rfl dX4_keep_37 ?_
      refine cl_ip (cl_run (rest := []) F hW e_X4_266 (c_hoursPassed hI l h3b hLu3_4 hk) ⟨Nat.le_of_ble_eq_true rfl, Nat.le_of_ble_eq_true rfl⟩ (by omega) h3_4 rfl rfl rfl hl (Nat.le_of_ble_eq_true rfl) dX4_keep_40 ⟨Nat.zero_le _, Nat.zero_le _⟩) hW (fun H locs hW => ?_)
      have hK2 : slotR cx μ4 (Ak S ||| 2 ^ j) (fun i => if i = j then AL S else AK S i) := by
        refine ⟨⟨gs, h121_4, hgs⟩, fun i hi => ?_, fun i hi hb => ?_⟩
        · by_cases e : i = j
          · subst e; exact ⟨_, laneR_off hLs hou4 (by omega)⟩
          · obtain ⟨Li, hLi⟩ := hsl2 i hi
            exact ⟨Li, laneR_off (laneR_off hLi hos (by omega)) hou4 (by omega)⟩
        · show laneR cx _ _ (if i = j then AL S else AK S i)
          by_cases e : i = j
          · subst e; rw [if_pos rfl]; exact laneR_off hLs hou4 (by omega)
          · rw [if_neg e]
            have hb2 : (Ak S).testBit i = true := by rw [Nat.testBit_or, Nat.testBit_two_pow, decide_eq_false (by omega), Bool.or_false] at hb; exact hb
            exact laneR_off (laneR_off (hsl3 i hi hb2) hos (by omega)) hou4 (by omega)
      exact rt_ie F hr hlk hW (by unfold r_keep; rw [inR_j hj (by omega)]; rfl) ⟨by unfold s_keep; rw [inR_j hj (by omega), nI_clamp (by omega)]; exact ⟨h0_4, (textR_off (textR_off hT hos (by omega)) hou4 (by omega)), hLu3_4, ⟨_, hLu10_4⟩, (pastR_off (pastR_off hPa hos (by omega)) hou4 (by omega)), (seenR_off (seenR_off hSe hos (by omega)) hou4 (by omega)), hK2⟩, (fun z hz => by rw [hou4 z (by omega)]; rw [hos z (by omega)])⟩ dX4_keep_43
    · skip
      refine lv_iconst (v := (-1)) hx hb dX4_keep_9 (by decide) ?_
      have hir : inR q 2 = false := by first | exact inR_neg (by assumption) | exact in2f (by assumption)
      exact rt_ie F hr hlk hW (by unfold r_keep; rw [hir]; rfl) ⟨by unfold s_keep; rw [hir]; exact hM, off_rf⟩ dX4_keep_10

set_option maxHeartbeats 4000000 in
set_option maxRecDepth 100000 in
theorem k_again {cx : CX} (hI : xI cx) (l : Launch) {μ : ME} {S : AS} {B : Nat} (hN : 136 ≤ xN cx) (hM : mainR cx μ S) (hA : aok S B) (hB : B < 800000) (q : Int32) : MT cx l yX4_again cX4_again 2 (some .int) 2 93 [.ref (xa cx 0), .int q] μ (Ei cx (r_again S q) (fun μ1 => mainR cx μ1 (s_again S q) ∧ off 0 136 μ μ1)) := by
  refine mt_of hI (by decide) (Nat.le_of_ble_eq_true rfl) ?_
  intro p e s m below meth c ls F hr hlk hW hl
  have hx := F.1.1
  have hb := F.1.2.1
  have hts := F.1.2.2.2.2
  obtain ⟨m0, hT, hL, ⟨LT, hLT⟩, hPa, hSe, hSl⟩ := id hM
  have hk := hA.2.1
  have hn6 := hk.1
  have h3b : 3 + 7 ≤ xN cx := by omega
  have h10b : 10 + 7 ≤ xN cx := by omega
  obtain ⟨_, _, _, _, _, _, o3, -⟩ := id hL
  obtain ⟨_, _, _, _, _, _, o10, -⟩ := id hLT
  obtain ⟨_, o1, -⟩ := id hT
  obtain ⟨_, _, o17, -⟩ := id hPa
  obtain ⟨_, _, _, o117, -⟩ := id hSe
  obtain ⟨⟨gs, o121, hgs⟩, hsl2, hsl3⟩ := id hSl
  have hl : lv_has ls 2 [(0, .ref (xa cx 0)), (1, .int q)] := hl
  refine lv_iload_n hx hb dX4_again_0 rfl (lv_at hl 1 rfl) ?_
  refine lv_if_lt (tgt := 9) hx hb dX4_again_1 (by decide) (fun c_1 => ?_) (fun c_1 => ?_)
  · skip
    refine lv_iconst (v := (-1)) hx hb dX4_again_9 (by decide) ?_
    have hir : inR q 2 = false := by first | exact inR_neg (by assumption) | exact in2f (by assumption)
    exact rt_ie F hr hlk hW (by unfold r_again; rw [hir]; rfl) ⟨by unfold s_again; rw [hir]; exact hM, off_rf⟩ dX4_again_10
  · skip
    refine lv_iload_n hx hb dX4_again_4 rfl (lv_at hl 1 rfl) ?_
    refine lv_iconst (v := nI 2) hx hb dX4_again_5 (by decide) ?_
    refine lv_icmp_lt (tgt := 11) hx hb dX4_again_6 (by decide) (fun c_2 => ?_) (fun c_2 => ?_)
    · skip
      obtain ⟨j, hj, rfl⟩ := inR_of (in2 c_1 c_2) (by omega)
      refine lv_aload_n hx hb dX4_again_11 rfl (lv_at hl 0 rfl) ?_
      refine nv_get F hW (by omega) m0 rfl iX4 6 (by decide) tw_154 rfl dX4_again_12 ?_
      refine lv_iload_n hx hb dX4_again_15 rfl (lv_at hl 1 rfl) ?_
      refine nv_shr F (by have := hA.2.2.2.2.1; omega) (by omega) dX4_again_16 ?_
      refine lv_iconst (v := nI 1) hx hb dX4_again_17 (by decide) ?_
      refine nv_and F dX4_again_18 ?_
      refine nv_top (y := ((b2 ((Ak S).testBit j)))) (bit_b2 _ _) ?_
      refine nv_bne (tgt := 25) F dX4_again_19 (by decide) (fun c_3 => ?_) (fun c_3 => ?_)
      · skip
        refine lv_aload_n hx hb dX4_again_25 rfl (lv_at hl 0 rfl) ?_
        refine nv_get F hW (by omega) m0 rfl iX4 1 (by decide) tw_149 rfl dX4_again_26 ?_
        refine lv_aload_n hx hb dX4_again_29 rfl (lv_at hl 0 rfl) ?_
        refine nv_get F hW (by omega) m0 rfl iX4 5 (by decide) tw_153 rfl dX4_again_30 ?_
        refine lv_iload_n hx hb dX4_again_33 rfl (lv_at hl 1 rfl) ?_
        refine nv_aaldN F hW (by omega) o121 (by omega) (by decide) (hgs j hj) dX4_again_34 ?_
        refine cl_v (cl_run (rest := []) F hW e_X4_138 (c_copyFrom hI l h3b (by omega) (by omega) hL (hsl3 j hj ‹(Ak S).testBit j = true›) (hA.2.2.2.2.2 j hj ‹(Ak S).testBit j = true›).1) ⟨Nat.le_of_ble_eq_true rfl, Nat.le_of_ble_eq_true rfl⟩ (by omega) o3 rfl rfl rfl hl (Nat.le_of_ble_eq_true rfl) dX4_again_35 ⟨Nat.zero_le _, Nat.zero_le _⟩) hW (fun μ4 H locs q_4 hW => ?_)
        obtain ⟨hL_4, ho_4⟩ := q_4
        obtain ⟨_, _, _, _, _, _, o3_4, -⟩ := id hL_4
        have hk_4 := hA.2.2.2.2.2 j hj ‹(Ak S).testBit j = true›
        have o0_4 := (ho_4 0 (by omega)).trans m0
        have o1_4 := (ho_4 1 (by omega)).trans o1
        have o10_4 := (ho_4 10 (by omega)).trans o10
        have o17_4 := (ho_4 17 (by omega)).trans o17
        have o117_4 := (ho_4 117 (by omega)).trans o117
        have o121_4 := (ho_4 121 (by omega)).trans o121
        have hLx10_4 := laneR_off hLT ho_4 (by omega)
        refine lv_aload_n hx hb dX4_again_38 rfl (lv_at hl 0 rfl) ?_
        refine nv_get F hW (by omega) o0_4 rfl iX4 3 (by decide) tw_151 rfl dX4_again_39 ?_
        refine cl_v (cl_run (rest := []) F hW e_X4_62 (c_pclear hI l (by omega) (pastR_off hPa ho_4 (by omega))) ⟨Nat.le_of_ble_eq_true rfl, Nat.le_of_ble_eq_true rfl⟩ (by omega) o17_4 rfl rfl rfl hl (Nat.le_of_ble_eq_true rfl) dX4_again_42 ⟨Nat.zero_le _, Nat.zero_le _⟩) hW (fun μ5 H locs q_5 hW => ?_)
        obtain ⟨hP_5, ho_5⟩ := q_5
        have o0_5 := (ho_5 0 (by omega)).trans o0_4
        have o1_5 := (ho_5 1 (by omega)).trans o1_4
        have o10_5 := (ho_5 10 (by omega)).trans o10_4
        have o117_5 := (ho_5 117 (by omega)).trans o117_4
        have o121_5 := (ho_5 121 (by omega)).trans o121_4
        have o3_5 := (ho_5 3 (by omega)).trans o3_4
        have hLx3_5 := laneR_off hL_4 ho_5 (by omega)
        have hLx10_5 := laneR_off hLx10_4 ho_5 (by omega)
        obtain ⟨_, _, o17_5, -⟩ := id hP_5
        refine lv_aload_n hx hb dX4_again_45 rfl (lv_at hl 0 rfl) ?_
        refine nv_get F hW (by omega) o0_5 rfl iX4 1 (by decide) tw_149 rfl dX4_again_46 ?_
        refine cl_ip (cl_run (rest := []) F hW e_X4_266 (c_hoursPassed hI l h3b hLx3_5 hk_4) ⟨Nat.le_of_ble_eq_true rfl, Nat.le_of_ble_eq_true rfl⟩ (by omega) o3_5 rfl rfl rfl hl (Nat.le_of_ble_eq_true rfl) dX4_again_49 ⟨Nat.zero_le _, Nat.zero_le _⟩) hW (fun H locs hW => ?_)
        exact rt_ie F hr hlk hW (by unfold r_again; rw [inR_j hj (by omega), if_pos rfl, nI_clamp (by omega), ‹(Ak S).testBit j = _›]; rfl) ⟨by unfold s_again; rw [inR_j hj (by omega), nI_clamp (by omega), ‹(Ak S).testBit j = _›]; exact ⟨o0_5, (textR_off (textR_off hT ho_4 (by omega)) ho_5 (by omega)), hLx3_5, ⟨_, hLx10_5⟩, hP_5, (seenR_off (seenR_off hSe ho_4 (by omega)) ho_5 (by omega)), (slotR_off (slotR_off hSl ho_4 (by omega)) ho_5 (by omega))⟩, (fun z hz => by rw [ho_5 z (by omega)]; rw [ho_4 z (by omega)])⟩ dX4_again_52
      · skip
        refine lv_bipush (v := (-3)) hx hb dX4_again_22 (by decide) ?_
        exact rt_ie F hr hlk hW (by unfold r_again; rw [inR_j hj (by omega), if_pos rfl, nI_clamp (by omega), ‹(Ak S).testBit j = _›]; rfl) ⟨by unfold s_again; rw [inR_j hj (by omega), nI_clamp (by omega), ‹(Ak S).testBit j = _›]; exact hM, off_rf⟩ dX4_again_24
    · skip
      refine lv_iconst (v := (-1)) hx hb dX4_again_9 (by decide) ?_
      have hir : inR q 2 = false := by first | exact inR_neg (by assumption) | exact in2f (by assumption)
      exact rt_ie F hr hlk hW (by unfold r_again; rw [hir]; rfl) ⟨by unfold s_again; rw [hir]; exact hM, off_rf⟩ dX4_again_10

set_option maxHeartbeats 4000000 in
set_option maxRecDepth 100000 in
theorem k_count {cx : CX} (hI : xI cx) (l : Launch) {μ : ME} {S : AS} {B : Nat} (hN : 136 ≤ xN cx) (hM : mainR cx μ S) (hA : aok S B) (hB : B < 800000) (w : Int32) : MT cx l yX4_count cX4_count 2 (some .int) 4 85 [.ref (xa cx 0), .int w] μ (Ei cx (r_count S w) (fun μ1 => mainR cx μ1 S ∧ off 0 136 μ μ1)) := by
  refine mt_of hI (by decide) (Nat.le_of_ble_eq_true rfl) ?_
  intro p e s m below meth c ls F hr hlk hW hl
  have hx := F.1.1
  have hb := F.1.2.1
  have hts := F.1.2.2.2.2
  obtain ⟨m0, hT, hL, ⟨LT, hLT⟩, hPa, hSe, hSl⟩ := id hM
  have hk := hA.2.1
  have hn6 := hk.1
  have h3b : 3 + 7 ≤ xN cx := by omega
  have h10b : 10 + 7 ≤ xN cx := by omega
  obtain ⟨_, _, _, _, _, _, o3, -⟩ := id hL
  obtain ⟨_, _, _, _, _, _, o10, -⟩ := id hLT
  obtain ⟨_, o1, -⟩ := id hT
  obtain ⟨_, _, o17, -⟩ := id hPa
  obtain ⟨_, _, _, o117, -⟩ := id hSe
  obtain ⟨⟨gs, o121, hgs⟩, hsl2, hsl3⟩ := id hSl
  have hl : lv_has ls 2 [(0, .ref (xa cx 0)), (1, .int w)] := hl
  refine lv_iload_n hx hb dX4_count_0 rfl (lv_at hl 1 rfl) ?_
  by_cases hin8 : inR w 9 = true
  · skip
    obtain ⟨q, hq, rfl⟩ := inR_of hin8 (by decide)
    rcases (show q = 0 ∨ q = 1 ∨ q = 2 ∨ q = 3 ∨ q = 4 ∨ q = 5 ∨ q = 6 ∨ q = 7 ∨ q = 8 by omega) with rfl | rfl | rfl | rfl | rfl | rfl | rfl | rfl | rfl
    · skip
      refine lv_tableIn (tgt := 52) hx hb dX4_count_1 (by decide) (by decide) rfl (by decide) ?_
      refine lv_aload_n hx hb dX4_count_52 rfl (lv_at hl 0 rfl) ?_
      refine nv_get F hW (by omega) m0 rfl iX4 0 (by decide) tw_148 rfl dX4_count_53 ?_
      refine cl_ip (cl_run (rest := []) F hW e_X4_48 (c_length hI l (by omega) hT hA.1) ⟨Nat.le_of_ble_eq_true rfl, Nat.le_of_ble_eq_true rfl⟩ (by omega) o1 rfl rfl rfl hl (Nat.le_of_ble_eq_true rfl) dX4_count_56 ⟨Nat.zero_le _, Nat.zero_le _⟩) hW (fun H locs hW => ?_)
      exact rt_ie F hr hlk hW (by unfold r_count; rw [if_pos hin8, nI_clamp (by omega)]; rfl) ⟨hM, off_rf⟩ dX4_count_59
    · skip
      refine lv_tableIn (tgt := 60) hx hb dX4_count_1 (by decide) (by decide) rfl (by decide) ?_
      refine lv_aload_n hx hb dX4_count_60 rfl (lv_at hl 0 rfl) ?_
      refine nv_get F hW (by omega) m0 rfl iX4 1 (by decide) tw_149 rfl dX4_count_61 ?_
      refine cl_ip (cl_run (rest := []) F hW e_X4_68 (c_size hI l h3b hL hk) ⟨Nat.le_of_ble_eq_true rfl, Nat.le_of_ble_eq_true rfl⟩ (by omega) o3 rfl rfl rfl hl (Nat.le_of_ble_eq_true rfl) dX4_count_64 ⟨Nat.zero_le _, Nat.zero_le _⟩) hW (fun H locs hW => ?_)
      exact rt_ie F hr hlk hW (by unfold r_count; rw [if_pos hin8, nI_clamp (by omega)]; rfl) ⟨hM, off_rf⟩ dX4_count_67
    · skip
      refine lv_tableIn (tgt := 68) hx hb dX4_count_1 (by decide) (by decide) rfl (by decide) ?_
      refine lv_aload_n hx hb dX4_count_68 rfl (lv_at hl 0 rfl) ?_
      refine nv_get F hW (by omega) m0 rfl iX4 1 (by decide) tw_149 rfl dX4_count_69 ?_
      refine cl_ip (cl_run (rest := []) F hW e_X4_145 (c_standingBits hI l h3b hL hk) ⟨Nat.le_of_ble_eq_true rfl, Nat.le_of_ble_eq_true rfl⟩ (by omega) o3 rfl rfl rfl hl (Nat.le_of_ble_eq_true rfl) dX4_count_72 ⟨Nat.zero_le _, Nat.zero_le _⟩) hW (fun H locs hW => ?_)
      exact rt_ie F hr hlk hW (by unfold r_count; rw [if_pos hin8, nI_clamp (by omega)]; rfl) ⟨hM, off_rf⟩ dX4_count_75
    · skip
      refine lv_tableIn (tgt := 76) hx hb dX4_count_1 (by decide) (by decide) rfl (by decide) ?_
      refine lv_aload_n hx hb dX4_count_76 rfl (lv_at hl 0 rfl) ?_
      refine nv_get F hW (by omega) m0 rfl iX4 1 (by decide) tw_149 rfl dX4_count_77 ?_
      refine cl_ip (cl_run (rest := []) F hW e_X4_266 (c_hoursPassed hI l h3b hL hk) ⟨Nat.le_of_ble_eq_true rfl, Nat.le_of_ble_eq_true rfl⟩ (by omega) o3 rfl rfl rfl hl (Nat.le_of_ble_eq_true rfl) dX4_count_80 ⟨Nat.zero_le _, Nat.zero_le _⟩) hW (fun H locs hW => ?_)
      exact rt_ie F hr hlk hW (by unfold r_count; rw [if_pos hin8, nI_clamp (by omega)]; rfl) ⟨hM, off_rf⟩ dX4_count_83
    · skip
      refine lv_tableIn (tgt := 84) hx hb dX4_count_1 (by decide) (by decide) rfl (by decide) ?_
      refine lv_aload_n hx hb dX4_count_84 rfl (lv_at hl 0 rfl) ?_
      refine nv_get F hW (by omega) m0 rfl iX4 1 (by decide) tw_149 rfl dX4_count_85 ?_
      refine cl_ip (cl_run (rest := []) F hW e_X4_269 (c_allStones hI l h3b hL hk (by omega)) ⟨Nat.le_of_ble_eq_true rfl, Nat.le_of_ble_eq_true rfl⟩ (by omega) o3 rfl rfl rfl hl (Nat.le_of_ble_eq_true rfl) dX4_count_88 ⟨Nat.zero_le _, Nat.zero_le _⟩) hW (fun H locs hW => ?_)
      exact rt_ie F hr hlk hW (by unfold r_count; rw [if_pos hin8, nI_clamp (by omega)]; rfl) ⟨hM, off_rf⟩ dX4_count_91
    · skip
      refine lv_tableIn (tgt := 92) hx hb dX4_count_1 (by decide) (by decide) rfl (by decide) ?_
      refine lv_aload_n hx hb dX4_count_92 rfl (lv_at hl 0 rfl) ?_
      refine nv_get F hW (by omega) m0 rfl iX4 1 (by decide) tw_149 rfl dX4_count_93 ?_
      refine cl_ip (cl_run (rest := []) F hW e_X4_272 (c_allGround hI l h3b hL hk (by omega)) ⟨Nat.le_of_ble_eq_true rfl, Nat.le_of_ble_eq_true rfl⟩ (by omega) o3 rfl rfl rfl hl (Nat.le_of_ble_eq_true rfl) dX4_count_96 ⟨Nat.zero_le _, Nat.zero_le _⟩) hW (fun H locs hW => ?_)
      exact rt_ie F hr hlk hW (by unfold r_count; rw [if_pos hin8, nI_clamp (by omega)]; rfl) ⟨hM, off_rf⟩ dX4_count_99
    · skip
      refine lv_tableIn (tgt := 100) hx hb dX4_count_1 (by decide) (by decide) rfl (by decide) ?_
      refine lv_aload_n hx hb dX4_count_100 rfl (lv_at hl 0 rfl) ?_
      refine nv_get F hW (by omega) m0 rfl iX4 1 (by decide) tw_149 rfl dX4_count_101 ?_
      refine cl_ip (cl_run (rest := []) F hW e_X4_275 (c_monkLoad hI l h3b hL hk (by omega)) ⟨Nat.le_of_ble_eq_true rfl, Nat.le_of_ble_eq_true rfl⟩ (by omega) o3 rfl rfl rfl hl (Nat.le_of_ble_eq_true rfl) dX4_count_104 ⟨Nat.zero_le _, Nat.zero_le _⟩) hW (fun H locs hW => ?_)
      exact rt_ie F hr hlk hW (by unfold r_count; rw [if_pos hin8, nI_clamp (by omega)]; rfl) ⟨hM, off_rf⟩ dX4_count_107
    · skip
      refine lv_tableIn (tgt := 108) hx hb dX4_count_1 (by decide) (by decide) rfl (by decide) ?_
      refine lv_aload_n hx hb dX4_count_108 rfl (lv_at hl 0 rfl) ?_
      refine nv_get F hW (by omega) m0 rfl iX4 3 (by decide) tw_151 rfl dX4_count_109 ?_
      refine cl_ip (cl_run (rest := []) F hW e_X4_131 (c_psize hI l (by omega) hPa) ⟨Nat.le_of_ble_eq_true rfl, Nat.le_of_ble_eq_true rfl⟩ (by omega) o17 rfl rfl rfl hl (Nat.le_of_ble_eq_true rfl) dX4_count_112 ⟨Nat.zero_le _, Nat.zero_le _⟩) hW (fun H locs hW => ?_)
      exact rt_ie F hr hlk hW (by unfold r_count; rw [if_pos hin8, nI_clamp (by omega)]; rfl) ⟨hM, off_rf⟩ dX4_count_115
    · skip
      refine lv_tableIn (tgt := 116) hx hb dX4_count_1 (by decide) (by decide) rfl (by decide) ?_
      refine lv_aload_n hx hb dX4_count_116 rfl (lv_at hl 0 rfl) ?_
      refine nv_get F hW (by omega) m0 rfl iX4 4 (by decide) tw_152 rfl dX4_count_117 ?_
      refine cl_ip (cl_run (rest := []) F hW e_X4_210 (c_ssize hI l (by omega) hSe hA.2.2.2.1) ⟨Nat.le_of_ble_eq_true rfl, Nat.le_of_ble_eq_true rfl⟩ (by omega) o117 rfl rfl rfl hl (Nat.le_of_ble_eq_true rfl) dX4_count_120 ⟨Nat.zero_le _, Nat.zero_le _⟩) hW (fun H locs hW => ?_)
      exact rt_ie F hr hlk hW (by unfold r_count; rw [if_pos hin8, nI_clamp (by omega)]; rfl) ⟨hM, off_rf⟩ dX4_count_123
  · skip
    have hout : w.toInt < 0 ∨ 8 < w.toInt := by
      rcases Int.lt_or_le w.toInt 0 with q | q
      · exact Or.inl q
      · exact Or.inr (Int.not_le.mp (fun z => hin8 (decide_eq_true ⟨q, by omega⟩)))
    refine lv_tableOut (tgt := 124) hx hb dX4_count_1 hout (by decide) ?_
    refine lv_bipush (v := (-2)) hx hb dX4_count_124 (by decide) ?_
    exact rt_ie F hr hlk hW (by unfold r_count; rw [if_neg hin8]) ⟨hM, off_rf⟩ dX4_count_126

def it10 (x : Int64) : Nat → Int64
  | 0 => x
  | i + 1 => it10 x i / lN 10
def figs (x : Int64) (f : Nat) : Bool := decide (0 ≤ x.toInt ∧ x.toInt < 10 ^ f)
theorem it10_lN {r : Nat} (hr : r < 9223372036854775808) (i : Nat) : it10 (lN r) i = lN (r / 10 ^ i) := by
  induction i with
  | zero => simp [it10]
  | succ i ih =>
    show it10 (lN r) i / lN 10 = _
    have h1 : r / 10 ^ i ≤ r := Nat.div_le_self _ _
    rw [ih, pk_lDiv (by omega) (by decide) (by decide), Nat.div_div_eq_div_mul, Nat.pow_succ]
theorem lN_0 : lN 0 = 0 := rfl
theorem figs_neg {x : Int64} {f : Nat} (c : lg_cmp x (lN 0) < 0) : figs x f = false := by
  rw [lg_cmp_lt, lN_0, Int64.lt_iff_toInt_lt] at c
  apply decide_eq_false
  have z : (0 : Int64).toInt = 0 := rfl
  omega
theorem figs_of {x : Int64} (c : ¬ lg_cmp x (lN 0) < 0) : ∃ r : Nat, r < 9223372036854775808 ∧ x = lN r := by
  rw [lg_cmp_lt, lN_0] at c
  exact pk_lOf c
theorem figs_lN {r f : Nat} (hr : r < 9223372036854775808) : figs (lN r) f = decide (r < 10 ^ f) := by
  unfold figs
  rw [pk_lT hr]
  apply decide_eq_decide.mpr
  constructor
  · intro h
    have := h.2
    exact_mod_cast this
  · intro h
    refine ⟨by omega, ?_⟩
    exact_mod_cast h
theorem figs_end {r f : Nat} (hr : r < 9223372036854775808) : (lg_cmp (it10 (lN r) f) (lN 0) = 0) ↔ r < 10 ^ f := by
  rw [lg_cmp_eq, it10_lN hr, pk_lEQ (Nat.lt_of_le_of_lt (Nat.div_le_self _ _) hr) (by decide), Nat.div_eq_zero_iff]
  have : 0 < 10 ^ f := Nat.pow_pos (by decide)
  omega
def fig (r f p : Nat) : Nat := r / 10 ^ (f - 1 - p) % 10
def mv (n c p : Nat) : Nat := c / 4 ^ (n - 1 - p) % 4
def movR (n c : Nat) : Nat → Nat
  | 0 => 0
  | i + 1 => movR n c i ||| 2 ^ mv n c i
def ordB (n c : Nat) : Bool := decide (movR n c n = 2 ^ n - 1)
def numR (n c : Nat) : Nat → Nat
  | 0 => 0
  | i + 1 => 10 * numR n c i + mv n c i + 1
theorem mv_lt (n c p : Nat) : mv n c p < 4 := Nat.mod_lt _ (by decide)
theorem movR_lt (n c i : Nat) : movR n c i < 16 := by
  induction i with
  | zero => show 0 < 16; decide
  | succ i ih => exact Nat.or_lt_two_pow (n := 4) ih (Nat.pow_lt_pow_right (by decide) (mv_lt n c i))
theorem numR_lt (n c : Nat) : ∀ i, numR n c i < 10 ^ (i + 1) := by
  intro i
  induction i with
  | zero => show 0 < 10 ^ 1; decide
  | succ i ih =>
    show 10 * numR n c i + mv n c i + 1 < 10 ^ (i + 1 + 1)
    have := mv_lt n c i
    rw [Nat.pow_succ]
    omega
theorem mv_eq {n c p : Nat} : c / 2 ^ (2 * (n - 1 - p)) &&& 3 = mv n c p := by
  unfold mv
  rw [show (3 : Nat) = 2 ^ 2 - 1 from rfl, Nat.and_two_pow_sub_one_eq_mod, Nat.pow_mul]

set_option maxHeartbeats 4000000 in
set_option maxRecDepth 100000 in
theorem c_hasFigures {cx : CX} (hI : xI cx) (l : Launch) {μ : ME} (x : Int64) (f : Nat) (hf : f ≤ 16) : MT cx l yX4_hasFigures cX4_hasFigures 6 (some .boolean) 0 0 [.long (x), .int (nI f)] μ (Pi cx μ (b2 (figs x f))) := by
  refine mt_of hI (by decide) (Nat.le_of_ble_eq_true rfl) ?_
  intro p e s m below meth c ls F hr hlk hW hl
  have hx := F.1.1
  have hb := F.1.2.1
  have hts := F.1.2.2.2.2
  have hl : lv_has ls 6 [(0, .long (x)), (2, .int (nI f))] := hl
  refine lv_lload_n hx hb dX4_hasFigures_0 rfl (lv_at hl 0 rfl) ?_
  refine lv_lstore_n (lv' := [(3, .long (x)), (0, .long (x)), (2, .int (nI f))]) hx hb dX4_hasFigures_1 rfl hl (by decide) rfl (fun ls hl => ?_)
  refine lv_iconst (v := nI 0) hx hb dX4_hasFigures_2 (by decide) ?_
  refine lv_istore (lv' := [(5, .int (nI 0)), (3, .long (x)), (0, .long (x)), (2, .int (nI f))]) hx hb dX4_hasFigures_3 hl (by decide) rfl (fun ls hl => ?_)
  have LOOP : ∀ (d i : Nat)  (H : Heap) (locs : List Loc) (ls : Array Slot), i + d = f → St cx s μ H locs → lv_has ls 6 [(0, .long (x)), (2, .int (nI f)), (3, .long (it10 x i)), (5, .int (nI i))] → W p l e { frames := 0, cells := 0, slots := 0, locals := 0 } s m [.long (x), .int (nI f)].toArray below meth c H locs 0 0 (MQ below (Pi cx μ (b2 (figs x f))) [.long (x), .int (nI f)].toArray s 0 0 (xA cx)) (F0 m 5 ls []) := by
    intro d
    induction d with
    | zero =>
      intro i   H locs ls hid  hW hl
      refine lv_iload hx hb dX4_hasFigures_5 (lv_at hl 3 rfl) ?_
      refine lv_iload_n hx hb dX4_hasFigures_7 rfl (lv_at hl 1 rfl) ?_
      refine nv_cge (tgt := 23) F (by omega) (by omega) dX4_hasFigures_8 (by decide) (fun c_1 => ?_) (fun c_1 => ?_)
      · skip
        refine lv_lload_n hx hb dX4_hasFigures_23 rfl (lv_at hl 0 rfl) ?_
        refine lv_lconst (v := lN 0) hx hb dX4_hasFigures_24 (by decide) ?_
        refine W.lcmp hx hb dX4_hasFigures_25 ?_
        refine lv_if_lt (tgt := 39) hx hb dX4_hasFigures_26 (by decide) (fun c_2 => ?_) (fun c_2 => ?_)
        · skip
          refine lv_iconst (v := nI 0) hx hb dX4_hasFigures_39 (by decide) ?_
          exact rt_zp F hr hlk hW (by first | (rw [figs_neg (by assumption)]; rfl) | (rw [figs_lN hr9]; exact b2_f (fun q => absurd ((figs_end hr9).mpr q) (by assumption)))) rfl dX4_hasFigures_40
        · skip
          have hff : i = f := by omega
          subst hff
          obtain ⟨r, hr9, rfl⟩ := figs_of c_2
          refine lv_lload_n hx hb dX4_hasFigures_29 rfl (lv_at hl 2 rfl) ?_
          refine lv_lconst (v := lN 0) hx hb dX4_hasFigures_30 (by decide) ?_
          refine W.lcmp hx hb dX4_hasFigures_31 ?_
          refine lv_if_ne (tgt := 39) hx hb dX4_hasFigures_32 (by decide) (fun c_3 => ?_) (fun c_3 => ?_)
          · skip
            refine lv_iconst (v := nI 0) hx hb dX4_hasFigures_39 (by decide) ?_
            exact rt_zp F hr hlk hW (by first | (rw [figs_neg (by assumption)]; rfl) | (rw [figs_lN hr9]; exact b2_f (fun q => absurd ((figs_end hr9).mpr q) (by assumption)))) rfl dX4_hasFigures_40
          · skip
            refine lv_iconst (v := nI 1) hx hb dX4_hasFigures_35 (by decide) ?_
            refine lv_goto (tgt := 40) hx hb dX4_hasFigures_36 (by decide) ?_
            exact rt_zp F hr hlk hW (by rw [figs_lN hr9]; exact b2_t ((figs_end hr9).mp (by assumption))) rfl dX4_hasFigures_40
      · skip
        exact absurd c_1 (by omega)
    | succ d ih =>
      intro i   H locs ls hid  hW hl
      refine lv_iload hx hb dX4_hasFigures_5 (lv_at hl 3 rfl) ?_
      refine lv_iload_n hx hb dX4_hasFigures_7 rfl (lv_at hl 1 rfl) ?_
      refine nv_cge (tgt := 23) F (by omega) (by omega) dX4_hasFigures_8 (by decide) (fun c_4 => ?_) (fun c_4 => ?_)
      · skip
        exact absurd c_4 (by omega)
      · skip
        refine lv_lload_n hx hb dX4_hasFigures_11 rfl (lv_at hl 2 rfl) ?_
        refine lv_ldc2 (v := lN 10) hx hb F.1.2.2.2.1 (hts _ tw_433) dX4_hasFigures_12 ?_
        refine lv_ldiv hx hb dX4_hasFigures_15 (by decide) ?_
        refine lv_lstore_n (lv' := [(3, .long (((it10 x i)) / ((lN 10)))), (0, .long (x)), (2, .int (nI f)), (5, .int (nI i))]) hx hb dX4_hasFigures_16 rfl hl (by decide) rfl (fun ls hl => ?_)
        refine lv_iinc (v := ((nI (i + 1)))) (lv' := [(5, .int (nI (i + 1))), (3, .long (((it10 x i)) / ((lN 10)))), (0, .long (x)), (2, .int (nI f))]) hx hb dX4_hasFigures_17 hl (k := 3) rfl (nI_add _ _) (by decide) rfl (fun ls hl => ?_)
        refine lv_goto (tgt := 5) hx hb dX4_hasFigures_20 (by decide) ?_
        exact ih (i + 1) _ _ _ (by omega) hW (lv_sub hl [2, 3, 1, 0] rfl)
  exact LOOP f 0 _ _ _ (by omega) hW (lv_sub hl [2, 3, 1, 0] rfl)

set_option maxHeartbeats 4000000 in
set_option maxRecDepth 100000 in
theorem c_figure {cx : CX} (hI : xI cx) (l : Launch) {μ : ME} (r f p0 : Nat) (hr9 : r < 9223372036854775808) (hf : f ≤ 16) (hp : p0 < f) : MT cx l yX4_figure cX4_figure 7 (some .int) 0 0 [.long (lN r), .int (nI f), .int (nI p0)] μ (Pi cx μ (nI (fig r f p0))) := by
  refine mt_of hI (by decide) (Nat.le_of_ble_eq_true rfl) ?_
  intro p e s m below meth c ls F hr hlk hW hl
  have hx := F.1.1
  have hb := F.1.2.1
  have hts := F.1.2.2.2.2
  have hl : lv_has ls 7 [(0, .long (lN r)), (2, .int (nI f)), (3, .int (nI p0))] := hl
  refine lv_lload_n hx hb dX4_figure_0 rfl (lv_at hl 0 rfl) ?_
  refine lv_lstore (lv' := [(4, .long (lN r)), (0, .long (lN r)), (2, .int (nI f)), (3, .int (nI p0))]) hx hb dX4_figure_1 hl (by decide) rfl (fun ls hl => ?_)
  refine lv_iload_n hx hb dX4_figure_3 rfl (lv_at hl 2 rfl) ?_
  refine lv_iconst (v := nI 1) hx hb dX4_figure_4 (by decide) ?_
  refine nv_sub F (by omega) dX4_figure_5 ?_
  refine lv_istore (lv' := [(6, .int (nI (f - 1))), (4, .long (lN r)), (0, .long (lN r)), (2, .int (nI f)), (3, .int (nI p0))]) hx hb dX4_figure_6 hl (by decide) rfl (fun ls hl => ?_)
  have LOOP : ∀ (d i : Nat)  (H : Heap) (locs : List Loc) (ls : Array Slot), i + d = f - 1 - p0 → St cx s μ H locs → lv_has ls 7 [(0, .long (lN r)), (2, .int (nI f)), (3, .int (nI p0)), (4, .long (lN (r / 10 ^ i))), (6, .int (nI (f - 1 - i)))] → W p l e { frames := 0, cells := 0, slots := 0, locals := 0 } s m [.long (lN r), .int (nI f), .int (nI p0)].toArray below meth c H locs 0 0 (MQ below (Pi cx μ (nI (fig r f p0))) [.long (lN r), .int (nI f), .int (nI p0)].toArray s 0 0 (xA cx)) (F0 m 8 ls []) := by
    intro d
    induction d with
    | zero =>
      intro i   H locs ls hid  hW hl
      refine lv_iload hx hb dX4_figure_8 (lv_at hl 4 rfl) ?_
      refine lv_iload_n hx hb dX4_figure_10 rfl (lv_at hl 2 rfl) ?_
      refine nv_cle (tgt := 28) F (by omega) (by omega) dX4_figure_11 (by decide) (fun c_1 => ?_) (fun c_1 => ?_)
      · skip
        refine lv_lload hx hb dX4_figure_28 (lv_at hl 3 rfl) ?_
        refine lv_ldc2 (v := lN 10) hx hb F.1.2.2.2.1 (hts _ tw_433) dX4_figure_30 ?_
        refine nw_lrem F (Nat.lt_of_le_of_lt (Nat.div_le_self _ _) hr9) (by decide) (by decide) dX4_figure_33 ?_
        refine lv_l2i (v := nI ((r / 10 ^ i) % 10)) hx hb dX4_figure_34 (lN_i _) ?_
        exact rt_ip F hr hlk hW (by unfold fig; rw [show f - 1 - p0 = i by omega]) rfl dX4_figure_35
      · skip
        exact absurd c_1 (by omega)
    | succ d ih =>
      intro i   H locs ls hid  hW hl
      refine lv_iload hx hb dX4_figure_8 (lv_at hl 4 rfl) ?_
      refine lv_iload_n hx hb dX4_figure_10 rfl (lv_at hl 2 rfl) ?_
      refine nv_cle (tgt := 28) F (by omega) (by omega) dX4_figure_11 (by decide) (fun c_2 => ?_) (fun c_2 => ?_)
      · skip
        exact absurd c_2 (by omega)
      · skip
        refine lv_lload hx hb dX4_figure_14 (lv_at hl 3 rfl) ?_
        refine lv_ldc2 (v := lN 10) hx hb F.1.2.2.2.1 (hts _ tw_433) dX4_figure_16 ?_
        refine nw_ldiv F (Nat.lt_of_le_of_lt (Nat.div_le_self _ _) hr9) (by decide) (by decide) dX4_figure_19 ?_
        refine nv_topl (y := ((lN (r / 10 ^ (i + 1))))) (by rw [Nat.div_div_eq_div_mul, Nat.pow_succ]) ?_
        refine lv_lstore (lv' := [(4, .long (lN (r / 10 ^ (i + 1)))), (0, .long (lN r)), (2, .int (nI f)), (3, .int (nI p0)), (6, .int (nI (f - 1 - i)))]) hx hb dX4_figure_20 hl (by decide) rfl (fun ls hl => ?_)
        refine lv_iinc (v := ((nI (f - 1 - (i + 1))))) (lv' := [(6, .int (nI (f - 1 - (i + 1)))), (4, .long (lN (r / 10 ^ (i + 1)))), (0, .long (lN r)), (2, .int (nI f)), (3, .int (nI p0))]) hx hb dX4_figure_22 hl (k := 4) rfl (by rw [show f - 1 - i = (f - 1 - (i + 1)) + 1 by omega]; exact pk_m1 _) (by decide) rfl (fun ls hl => ?_)
        refine lv_goto (tgt := 8) hx hb dX4_figure_25 (by decide) ?_
        exact ih (i + 1) _ _ _ (by omega) hW (lv_sub hl [2, 3, 4, 1, 0] rfl)
  exact LOOP (f - 1 - p0) 0 _ _ _ (by omega) hW (by have hl2 := lv_sub hl [2, 3, 4, 1, 0] rfl; rw [show r / 10 ^ 0 = r by simp]; exact hl2)

theorem fig_lt (r f p : Nat) : fig r f p < 10 := Nat.mod_lt _ (by decide)

set_option maxHeartbeats 4000000 in
set_option maxRecDepth 100000 in
theorem c_moveAt {cx : CX} (hI : xI cx) (l : Launch) {μ : ME} (n c0 p0 : Nat) (hn : n ≤ 4) (hp : p0 < n) (hc : c0 < 256) : MT cx l yX4_moveAt cX4_moveAt 3 (some .int) 0 0 [.int (nI n), .int (nI c0), .int (nI p0)] μ (Pi cx μ (nI (mv n c0 p0))) := by
  refine mt_of hI (by decide) (Nat.le_of_ble_eq_true rfl) ?_
  intro p e s m below meth c ls F hr hlk hW hl
  have hx := F.1.1
  have hb := F.1.2.1
  have hts := F.1.2.2.2.2
  have hl : lv_has ls 3 [(0, .int (nI n)), (1, .int (nI c0)), (2, .int (nI p0))] := hl
  refine lv_iload_n hx hb dX4_moveAt_0 rfl (lv_at hl 1 rfl) ?_
  refine lv_iconst (v := nI 2) hx hb dX4_moveAt_1 (by decide) ?_
  refine lv_iload_n hx hb dX4_moveAt_2 rfl (lv_at hl 0 rfl) ?_
  refine lv_iconst (v := nI 1) hx hb dX4_moveAt_3 (by decide) ?_
  refine nv_sub F (by omega) dX4_moveAt_4 ?_
  refine lv_iload_n hx hb dX4_moveAt_5 rfl (lv_at hl 2 rfl) ?_
  refine nv_sub F (by omega) dX4_moveAt_6 ?_
  refine nv_mul F dX4_moveAt_7 ?_
  refine nv_shr F (by omega) (by omega) dX4_moveAt_8 ?_
  refine lv_iconst (v := nI 3) hx hb dX4_moveAt_9 (by decide) ?_
  refine nv_and F dX4_moveAt_10 ?_
  refine nv_top (y := ((nI (mv n c0 p0)))) (by rw [mv_eq]) ?_
  exact rt_ip F hr hlk hW rfl rfl dX4_moveAt_11

set_option maxHeartbeats 4000000 in
set_option maxRecDepth 100000 in
theorem c_isOrder {cx : CX} (hI : xI cx) (l : Launch) {μ : ME} (n c0 : Nat) (hn : n ≤ 4) (hc : c0 < 256) : MT cx l yX4_isOrder cX4_isOrder 4 (some .boolean) 1 22 [.int (nI n), .int (nI c0)] μ (Pi cx μ (b2 (ordB n c0))) := by
  refine mt_of hI (by decide) (Nat.le_of_ble_eq_true rfl) ?_
  intro p e s m below meth c ls F hr hlk hW hl
  have hx := F.1.1
  have hb := F.1.2.1
  have hts := F.1.2.2.2.2
  have hl : lv_has ls 4 [(0, .int (nI n)), (1, .int (nI c0))] := hl
  refine lv_iconst (v := nI 0) hx hb dX4_isOrder_0 (by decide) ?_
  refine lv_istore_n (lv' := [(2, .int (nI 0)), (0, .int (nI n)), (1, .int (nI c0))]) hx hb dX4_isOrder_1 rfl hl (by decide) rfl (fun ls hl => ?_)
  refine lv_iconst (v := nI 0) hx hb dX4_isOrder_2 (by decide) ?_
  refine lv_istore_n (lv' := [(3, .int (nI 0)), (2, .int (nI 0)), (0, .int (nI n)), (1, .int (nI c0))]) hx hb dX4_isOrder_3 rfl hl (by decide) rfl (fun ls hl => ?_)
  have LOOP : ∀ (d i : Nat)  (H : Heap) (locs : List Loc) (ls : Array Slot), i + d = n → St cx s μ H locs → lv_has ls 4 [(0, .int (nI n)), (1, .int (nI c0)), (2, .int (nI (movR n c0 i))), (3, .int (nI i))] → W p l e { frames := 1, cells := 0, slots := 0, locals := 22 } s m [.int (nI n), .int (nI c0)].toArray below meth c H locs 0 0 (MQ below (Pi cx μ (b2 (ordB n c0))) [.int (nI n), .int (nI c0)].toArray s 0 0 (xA cx)) (F0 m 4 ls []) := by
    intro d
    induction d with
    | zero =>
      intro i   H locs ls hid  hW hl
      refine lv_iload_n hx hb dX4_isOrder_4 rfl (lv_at hl 3 rfl) ?_
      refine lv_iload_n hx hb dX4_isOrder_5 rfl (lv_at hl 0 rfl) ?_
      refine nv_cge (tgt := 26) F (by omega) (by omega) dX4_isOrder_6 (by decide) (fun c_1 => ?_) (fun c_1 => ?_)
      · skip
        refine lv_iload_n hx hb dX4_isOrder_26 rfl (lv_at hl 2 rfl) ?_
        refine lv_iconst (v := nI 1) hx hb dX4_isOrder_27 (by decide) ?_
        refine lv_iload_n hx hb dX4_isOrder_28 rfl (lv_at hl 0 rfl) ?_
        refine nv_shl F (by omega) (pow2_lt (by omega)) dX4_isOrder_29 ?_
        refine nv_top (y := ((nI (2 ^ n)))) (by rw [Nat.one_mul]) ?_
        refine lv_iconst (v := nI 1) hx hb dX4_isOrder_30 (by decide) ?_
        refine nv_sub F (Nat.two_pow_pos n) dX4_isOrder_31 ?_
        refine nv_cne (tgt := 39) F (by have := movR_lt n c0 i; omega) (by have := pow2_6 (show n < 6 by omega); omega) dX4_isOrder_32 (by decide) (fun c_2 => ?_) (fun c_2 => ?_)
        · skip
          refine lv_iconst (v := nI 0) hx hb dX4_isOrder_39 (by decide) ?_
          exact rt_zp F hr hlk hW (by unfold ordB; rw [show movR n c0 n = movR n c0 i by rw [show i = n by omega]]; exact b2_f (by assumption)) rfl dX4_isOrder_40
        · skip
          refine lv_iconst (v := nI 1) hx hb dX4_isOrder_35 (by decide) ?_
          refine lv_goto (tgt := 40) hx hb dX4_isOrder_36 (by decide) ?_
          exact rt_zp F hr hlk hW (by unfold ordB; rw [show movR n c0 n = movR n c0 i by rw [show i = n by omega]]; exact b2_t (by assumption)) rfl dX4_isOrder_40
      · skip
        exact absurd c_1 (by omega)
    | succ d ih =>
      intro i   H locs ls hid  hW hl
      refine lv_iload_n hx hb dX4_isOrder_4 rfl (lv_at hl 3 rfl) ?_
      refine lv_iload_n hx hb dX4_isOrder_5 rfl (lv_at hl 0 rfl) ?_
      refine nv_cge (tgt := 26) F (by omega) (by omega) dX4_isOrder_6 (by decide) (fun c_3 => ?_) (fun c_3 => ?_)
      · skip
        exact absurd c_3 (by omega)
      · skip
        refine lv_iload_n hx hb dX4_isOrder_9 rfl (lv_at hl 2 rfl) ?_
        refine lv_iconst (v := nI 1) hx hb dX4_isOrder_10 (by decide) ?_
        refine lv_iload_n hx hb dX4_isOrder_11 rfl (lv_at hl 0 rfl) ?_
        refine lv_iload_n hx hb dX4_isOrder_12 rfl (lv_at hl 1 rfl) ?_
        refine lv_iload_n hx hb dX4_isOrder_13 rfl (lv_at hl 3 rfl) ?_
        refine cl_ip (cl_runS (rest := [.int (nI 1), .int (nI (movR n c0 i))]) F hW e_X4_174 (c_moveAt hI l n c0 i (by omega) (by omega) (by omega)) ⟨Nat.le_of_ble_eq_true rfl, Nat.le_of_ble_eq_true rfl⟩ rfl rfl hl (Nat.le_of_ble_eq_true rfl) dX4_isOrder_14 ⟨Nat.zero_le _, Nat.zero_le _⟩) hW (fun H locs hW => ?_)
        refine nv_shl F (by have := mv_lt n c0 i; omega) (pow2_lt (by have := mv_lt n c0 i; omega)) dX4_isOrder_17 ?_
        refine nv_top (y := ((nI (2 ^ mv n c0 i)))) (by rw [Nat.one_mul]) ?_
        refine nv_or F dX4_isOrder_18 ?_
        refine lv_istore_n (lv' := [(2, .int (nI ((movR n c0 i) ||| (2 ^ mv n c0 i)))), (0, .int (nI n)), (1, .int (nI c0)), (3, .int (nI i))]) hx hb dX4_isOrder_19 rfl hl (by decide) rfl (fun ls hl => ?_)
        refine lv_iinc (v := ((nI (i + 1)))) (lv' := [(3, .int (nI (i + 1))), (2, .int (nI ((movR n c0 i) ||| (2 ^ mv n c0 i)))), (0, .int (nI n)), (1, .int (nI c0))]) hx hb dX4_isOrder_20 hl (k := 3) rfl (nI_add _ _) (by decide) rfl (fun ls hl => ?_)
        refine lv_goto (tgt := 4) hx hb dX4_isOrder_23 (by decide) ?_
        exact ih (i + 1) _ _ _ (by omega) hW (lv_sub hl [2, 3, 1, 0] rfl)
  exact LOOP n 0 _ _ _ (by omega) hW (lv_sub hl [2, 3, 1, 0] rfl)

set_option maxHeartbeats 4000000 in
set_option maxRecDepth 100000 in
theorem c_orderNumber {cx : CX} (hI : xI cx) (l : Launch) {μ : ME} (n c0 : Nat) (hn : n ≤ 4) (hc : c0 < 256) : MT cx l yX4_orderNumber cX4_orderNumber 4 (some .int) 1 22 [.int (nI n), .int (nI c0)] μ (Pi cx μ (nI (numR n c0 n))) := by
  refine mt_of hI (by decide) (Nat.le_of_ble_eq_true rfl) ?_
  intro p e s m below meth c ls F hr hlk hW hl
  have hx := F.1.1
  have hb := F.1.2.1
  have hts := F.1.2.2.2.2
  have hl : lv_has ls 4 [(0, .int (nI n)), (1, .int (nI c0))] := hl
  refine lv_iconst (v := nI 0) hx hb dX4_orderNumber_0 (by decide) ?_
  refine lv_istore_n (lv' := [(2, .int (nI 0)), (0, .int (nI n)), (1, .int (nI c0))]) hx hb dX4_orderNumber_1 rfl hl (by decide) rfl (fun ls hl => ?_)
  refine lv_iconst (v := nI 0) hx hb dX4_orderNumber_2 (by decide) ?_
  refine lv_istore_n (lv' := [(3, .int (nI 0)), (2, .int (nI 0)), (0, .int (nI n)), (1, .int (nI c0))]) hx hb dX4_orderNumber_3 rfl hl (by decide) rfl (fun ls hl => ?_)
  have LOOP : ∀ (d i : Nat)  (H : Heap) (locs : List Loc) (ls : Array Slot), i + d = n → St cx s μ H locs → lv_has ls 4 [(0, .int (nI n)), (1, .int (nI c0)), (2, .int (nI (numR n c0 i))), (3, .int (nI i))] → W p l e { frames := 1, cells := 0, slots := 0, locals := 22 } s m [.int (nI n), .int (nI c0)].toArray below meth c H locs 0 0 (MQ below (Pi cx μ (nI (numR n c0 n))) [.int (nI n), .int (nI c0)].toArray s 0 0 (xA cx)) (F0 m 4 ls []) := by
    intro d
    induction d with
    | zero =>
      intro i   H locs ls hid  hW hl
      refine lv_iload_n hx hb dX4_orderNumber_4 rfl (lv_at hl 3 rfl) ?_
      refine lv_iload_n hx hb dX4_orderNumber_5 rfl (lv_at hl 0 rfl) ?_
      refine nv_cge (tgt := 29) F (by omega) (by omega) dX4_orderNumber_6 (by decide) (fun c_1 => ?_) (fun c_1 => ?_)
      · skip
        refine lv_iload_n hx hb dX4_orderNumber_29 rfl (lv_at hl 2 rfl) ?_
        exact rt_ip F hr hlk hW (by rw [show i = n by omega]) rfl dX4_orderNumber_30
      · skip
        exact absurd c_1 (by omega)
    | succ d ih =>
      intro i   H locs ls hid  hW hl
      refine lv_iload_n hx hb dX4_orderNumber_4 rfl (lv_at hl 3 rfl) ?_
      refine lv_iload_n hx hb dX4_orderNumber_5 rfl (lv_at hl 0 rfl) ?_
      refine nv_cge (tgt := 29) F (by omega) (by omega) dX4_orderNumber_6 (by decide) (fun c_2 => ?_) (fun c_2 => ?_)
      · skip
        exact absurd c_2 (by omega)
      · skip
        refine lv_bipush (v := nI 10) hx hb dX4_orderNumber_9 (by decide) ?_
        refine lv_iload_n hx hb dX4_orderNumber_11 rfl (lv_at hl 2 rfl) ?_
        refine nv_mul F dX4_orderNumber_12 ?_
        refine lv_iload_n hx hb dX4_orderNumber_13 rfl (lv_at hl 0 rfl) ?_
        refine lv_iload_n hx hb dX4_orderNumber_14 rfl (lv_at hl 1 rfl) ?_
        refine lv_iload_n hx hb dX4_orderNumber_15 rfl (lv_at hl 3 rfl) ?_
        refine cl_ip (cl_runS (rest := [.int (nI (10 * (numR n c0 i)))]) F hW e_X4_174 (c_moveAt hI l n c0 i (by omega) (by omega) (by omega)) ⟨Nat.le_of_ble_eq_true rfl, Nat.le_of_ble_eq_true rfl⟩ rfl rfl hl (Nat.le_of_ble_eq_true rfl) dX4_orderNumber_16 ⟨Nat.zero_le _, Nat.zero_le _⟩) hW (fun H locs hW => ?_)
        refine nv_add F dX4_orderNumber_19 ?_
        refine lv_iconst (v := nI 1) hx hb dX4_orderNumber_20 (by decide) ?_
        refine nv_add F dX4_orderNumber_21 ?_
        refine lv_istore_n (lv' := [(2, .int (nI (((10 * (numR n c0 i)) + (mv n c0 i)) + 1))), (0, .int (nI n)), (1, .int (nI c0)), (3, .int (nI i))]) hx hb dX4_orderNumber_22 rfl hl (by decide) rfl (fun ls hl => ?_)
        refine lv_iinc (v := ((nI (i + 1)))) (lv' := [(3, .int (nI (i + 1))), (2, .int (nI (((10 * (numR n c0 i)) + (mv n c0 i)) + 1))), (0, .int (nI n)), (1, .int (nI c0))]) hx hb dX4_orderNumber_23 hl (k := 3) rfl (nI_add _ _) (by decide) rfl (fun ls hl => ?_)
        refine lv_goto (tgt := 4) hx hb dX4_orderNumber_26 (by decide) ?_
        exact ih (i + 1) _ _ _ (by omega) hW (lv_sub hl [2, 3, 1, 0] rfl)
  exact LOOP n 0 _ _ _ (by omega) hW (lv_sub hl [2, 3, 1, 0] rfl)
