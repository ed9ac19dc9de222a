def r_deed (S : AS) (h d : Int32) : Int32 := if inR h (Ln (AL S)) then (if inR d 3 then (if Ld (AL S) h.toNatClampNeg = d.toNatClampNeg then -3 else nI (Ld (AL S) h.toNatClampNeg)) else -2) else -1
def s_deed (S : AS) (h d : Int32) : AS := if inR h (Ln (AL S)) && inR d 3 && decide (¬ Ld (AL S) h.toNatClampNeg = d.toNatClampNeg) then uL S (setD (AL S) h.toNatClampNeg d.toNatClampNeg) (pushP (AP S) (AL S)) (min (Az S + 1) 14) else S
def r_build (S : AS) (h : Int32) : Int32 := if inR h (Ln (AL S)) then (if lst (AL S) h.toNatClampNeg then -3 else nI (Ls (AL S) h.toNatClampNeg)) else -1
def s_build (S : AS) (h : Int32) : AS := if inR h (Ln (AL S)) && !lst (AL S) h.toNatClampNeg then uL S (raiseL (AL S) h.toNatClampNeg) (pushP (AP S) (AL S)) (min (Az S + 1) 14) else S
def r_undo (S : AS) : Int32 := if Az S = 0 then -3 else nI (Az S - 1)
def s_undo (S : AS) : AS := if Az S = 0 then S else uL S (AP S 0) (fun k => AP S (k + 1)) (Az S - 1)
theorem raise_n (L : LN) (j : Nat) : Ln (raiseL L j) = Ln L := by
  unfold raiseL
  split <;> rfl
theorem raise_s (L : LN) (j : Nat) : Ls (raiseL L j) = Ls L := by
  unfold raiseL
  split <;> rfl

set_option maxHeartbeats 4000000 in
set_option maxRecDepth 100000 in
theorem k_deed {cx : CX} (hI : xI cx) (l : Launch) {μ : ME} {S : AS} {B : Nat} (hN : 136 ≤ xN cx) (hM : mainR cx μ S) (hA : aok S B) (hB : B < 800000) (h d : Int32) : MT cx l yX4_deed cX4_deed 4 (some .int) 3 114 [.ref (xa cx 0), .int h, .int d] μ (Ei cx (r_deed S h d) (fun μ1 => mainR cx μ1 (s_deed S h d) ∧ off 0 136 μ μ1)) := by
  refine mt_of hI (by decide) (Nat.le_of_ble_eq_true rfl) ?_
  intro p e s m below meth c ls F hr hlk hW hl
  have hx := F.1.1
  have hb := F.1.2.1
  have hts := F.1.2.2.2.2
  obtain ⟨m0, hT, hL, ⟨LT, hLT⟩, hPa, hSe, hSl⟩ := id hM
  have hk := hA.2.1
  have hn6 := hk.1
  have h3b : 3 + 7 ≤ xN cx := by omega
  have h10b : 10 + 7 ≤ xN cx := by omega
  obtain ⟨_, _, _, _, _, _, o3, -⟩ := id hL
  obtain ⟨_, _, _, _, _, _, o10, -⟩ := id hLT
  obtain ⟨_, o1, -⟩ := id hT
  obtain ⟨_, _, o17, -⟩ := id hPa
  obtain ⟨_, _, _, o117, -⟩ := id hSe
  obtain ⟨⟨gs, o121, hgs⟩, hsl2, hsl3⟩ := id hSl
  have hl : lv_has ls 4 [(0, .ref (xa cx 0)), (1, .int h), (2, .int d)] := hl
  refine lv_aload_n hx hb dX4_deed_0 rfl (lv_at hl 0 rfl) ?_
  refine nv_get F hW (by omega) m0 rfl iX4 1 (by decide) tw_149 rfl dX4_deed_1 ?_
  refine lv_iload_n hx hb dX4_deed_4 rfl (lv_at hl 1 rfl) ?_
  refine cl_ip (cl_run (rest := []) F hW e_X4_71 (c_has hI l h3b hL hk h) ⟨Nat.le_of_ble_eq_true rfl, Nat.le_of_ble_eq_true rfl⟩ (by omega) o3 rfl rfl rfl hl (Nat.le_of_ble_eq_true rfl) dX4_deed_5 ⟨Nat.zero_le _, Nat.zero_le _⟩) hW (fun H locs hW => ?_)
  refine nv_bne (tgt := 13) F dX4_deed_8 (by decide) (fun c_1 => ?_) (fun c_1 => ?_)
  · skip
    obtain ⟨j, hj, rfl⟩ := inR_of c_1 (by omega)
    refine lv_iload_n hx hb dX4_deed_13 rfl (lv_at hl 2 rfl) ?_
    refine cl_ip (cl_runS (rest := []) F hW e_X4_122 (c_isDeed hI l d) ⟨Nat.le_of_ble_eq_true rfl, Nat.le_of_ble_eq_true rfl⟩ rfl rfl hl (Nat.le_of_ble_eq_true rfl) dX4_deed_14 ⟨Nat.zero_le _, Nat.zero_le _⟩) hW (fun H locs hW => ?_)
    refine nv_bne (tgt := 23) F dX4_deed_17 (by decide) (fun c_2 => ?_) (fun c_2 => ?_)
    · skip
      obtain ⟨u, hu, rfl⟩ := inR_of c_2 (by omega)
      refine lv_aload_n hx hb dX4_deed_23 rfl (lv_at hl 0 rfl) ?_
      refine nv_get F hW (by omega) m0 rfl iX4 1 (by decide) tw_149 rfl dX4_deed_24 ?_
      refine lv_iload_n hx hb dX4_deed_27 rfl (lv_at hl 1 rfl) ?_
      refine cl_ip (cl_run (rest := []) F hW e_X4_84 (c_deedOf hI l h3b hL hk j (by omega)) ⟨Nat.le_of_ble_eq_true rfl, Nat.le_of_ble_eq_true rfl⟩ (by omega) o3 rfl rfl rfl hl (Nat.le_of_ble_eq_true rfl) dX4_deed_28 ⟨Nat.zero_le _, Nat.zero_le _⟩) hW (fun H locs hW => ?_)
      refine lv_istore_n (lv' := [(3, .int (nI (Ld (AL S) j))), (0, .ref (xa cx 0)), (1, .int (nI j)), (2, .int (nI u))]) hx hb dX4_deed_31 rfl hl (by decide) rfl (fun ls hl => ?_)
      refine lv_iload_n hx hb dX4_deed_32 rfl (lv_at hl 0 rfl) ?_
      refine lv_iload_n hx hb dX4_deed_33 rfl (lv_at hl 3 rfl) ?_
      refine nv_cne (tgt := 40) F (by have := (hk.2.2.2.1 j hj).2.2.2; omega) (by omega) dX4_deed_34 (by decide) (fun c_3 => ?_) (fun c_3 => ?_)
      · skip
        refine lv_aload_n hx hb dX4_deed_40 rfl (lv_at hl 1 rfl) ?_
        refine nv_get F hW (by omega) m0 rfl iX4 3 (by decide) tw_151 rfl dX4_deed_41 ?_
        refine lv_aload_n hx hb dX4_deed_44 rfl (lv_at hl 1 rfl) ?_
        refine nv_get F hW (by omega) m0 rfl iX4 1 (by decide) tw_149 rfl dX4_deed_45 ?_
        refine cl_v (cl_run (rest := []) F hW e_X4_99 (c_remember hI l (by omega) hPa h3b (by omega) hL hk.1) ⟨Nat.le_of_ble_eq_true rfl, Nat.le_of_ble_eq_true rfl⟩ (by omega) o17 rfl rfl rfl hl (Nat.le_of_ble_eq_true rfl) dX4_deed_48 ⟨Nat.zero_le _, Nat.zero_le _⟩) hW (fun μ4 H locs q_4 hW => ?_)
        obtain ⟨hP_4, ho_4⟩ := q_4
        have o0_4 := (ho_4 0 (by omega)).trans m0
        have o1_4 := (ho_4 1 (by omega)).trans o1
        have o3_4 := (ho_4 3 (by omega)).trans o3
        have o10_4 := (ho_4 10 (by omega)).trans o10
        have o117_4 := (ho_4 117 (by omega)).trans o117
        have o121_4 := (ho_4 121 (by omega)).trans o121
        have hLx3_4 := laneR_off hL ho_4 (by omega)
        have hLx10_4 := laneR_off hLT ho_4 (by omega)
        obtain ⟨_, _, o17_4, -⟩ := id hP_4
        refine lv_aload_n hx hb dX4_deed_51 rfl (lv_at hl 1 rfl) ?_
        refine nv_get F hW (by omega) o0_4 rfl iX4 1 (by decide) tw_149 rfl dX4_deed_52 ?_
        refine lv_iload_n hx hb dX4_deed_55 rfl (lv_at hl 2 rfl) ?_
        refine lv_iload_n hx hb dX4_deed_56 rfl (lv_at hl 3 rfl) ?_
        refine cl_ie (cl_run (rest := []) F hW e_X4_125 (c_writeDeed hI l h3b hLx3_4 hk j u (by omega) (by omega)) ⟨Nat.le_of_ble_eq_true rfl, Nat.le_of_ble_eq_true rfl⟩ (by omega) o3_4 rfl rfl rfl hl (Nat.le_of_ble_eq_true rfl) dX4_deed_57 ⟨Nat.zero_le _, Nat.zero_le _⟩) hW (fun μ5 H locs q_5 hW => ?_)
        obtain ⟨hL_5, ho_5⟩ := q_5
        obtain ⟨_, _, _, _, _, _, o3_5, -⟩ := id hL_5
        have hk_5 := lok_setD hk j u
        have o0_5 := (ho_5 0 (by omega)).trans o0_4
        have o1_5 := (ho_5 1 (by omega)).trans o1_4
        have o10_5 := (ho_5 10 (by omega)).trans o10_4
        have o117_5 := (ho_5 117 (by omega)).trans o117_4
        have o121_5 := (ho_5 121 (by omega)).trans o121_4
        have o17_5 := (ho_5 17 (by omega)).trans o17_4
        have hLx10_5 := laneR_off hLx10_4 ho_5 (by omega)
        refine lv_pop hx hb dX4_deed_60 rfl ?_
        refine lv_iload_n hx hb dX4_deed_61 rfl (lv_at hl 0 rfl) ?_
        exact rt_ie F hr hlk hW (by unfold r_deed; rw [inR_j hj (by omega), if_pos rfl, inR_j hu (by omega), if_pos rfl, nI_clamp (by omega), nI_clamp (by omega)]; first | rw [if_pos (by assumption)] | rw [if_neg (by assumption)]) ⟨by unfold s_deed; rw [nI_clamp (by omega), nI_clamp (by omega), inR_j hj (by omega), inR_j hu (by omega), decide_eq_true (by assumption)]; exact ⟨o0_5, (textR_off (textR_off hT ho_4 (by omega)) ho_5 (by omega)), hL_5, ⟨_, hLx10_5⟩, (pastR_off hP_4 ho_5 (by omega)), (seenR_off (seenR_off hSe ho_4 (by omega)) ho_5 (by omega)), (slotR_off (slotR_off hSl ho_4 (by omega)) ho_5 (by omega))⟩, (fun z hz => by rw [ho_5 z (by omega)]; rw [ho_4 z (by omega)])⟩ dX4_deed_62
      · skip
        refine lv_bipush (v := (-3)) hx hb dX4_deed_37 (by decide) ?_
        exact rt_ie F hr hlk hW (by unfold r_deed; rw [inR_j hj (by omega), if_pos rfl, inR_j hu (by omega), if_pos rfl, nI_clamp (by omega), nI_clamp (by omega)]; first | rw [if_pos (by assumption)] | rw [if_neg (by assumption)]) ⟨by unfold s_deed; rw [nI_clamp (by omega), nI_clamp (by omega), decide_eq_false (by omega), Bool.and_false]; exact hM, off_rf⟩ dX4_deed_39
    · skip
      refine lv_bipush (v := (-2)) hx hb dX4_deed_20 (by decide) ?_
      exact rt_ie F hr hlk hW (by unfold r_deed; rw [inR_j hj (by omega), if_pos rfl, ‹inR d 3 = false›]; rfl) ⟨by unfold s_deed; rw [‹inR d 3 = false›, Bool.and_false]; exact hM, off_rf⟩ dX4_deed_22
  · skip
    refine lv_iconst (v := (-1)) hx hb dX4_deed_11 (by decide) ?_
    exact rt_ie F hr hlk hW (by unfold r_deed; rw [‹inR h (Ln (AL S)) = false›]; rfl) ⟨by unfold s_deed; rw [‹inR h (Ln (AL S)) = false›]; exact hM, off_rf⟩ dX4_deed_12

set_option maxHeartbeats 4000000 in
set_option maxRecDepth 100000 in
theorem k_build {cx : CX} (hI : xI cx) (l : Launch) {μ : ME} {S : AS} {B : Nat} (hN : 136 ≤ xN cx) (hM : mainR cx μ S) (hA : aok S B) (hB : B < 800000) (h : Int32) : MT cx l yX4_build cX4_build 2 (some .int) 3 114 [.ref (xa cx 0), .int h] μ (Ei cx (r_build S h) (fun μ1 => mainR cx μ1 (s_build S h) ∧ off 0 136 μ μ1)) := by
  refine mt_of hI (by decide) (Nat.le_of_ble_eq_true rfl) ?_
  intro p e s m below meth c ls F hr hlk hW hl
  have hx := F.1.1
  have hb := F.1.2.1
  have hts := F.1.2.2.2.2
  obtain ⟨m0, hT, hL, ⟨LT, hLT⟩, hPa, hSe, hSl⟩ := id hM
  have hk := hA.2.1
  have hn6 := hk.1
  have h3b : 3 + 7 ≤ xN cx := by omega
  have h10b : 10 + 7 ≤ xN cx := by omega
  obtain ⟨_, _, _, _, _, _, o3, -⟩ := id hL
  obtain ⟨_, _, _, _, _, _, o10, -⟩ := id hLT
  obtain ⟨_, o1, -⟩ := id hT
  obtain ⟨_, _, o17, -⟩ := id hPa
  obtain ⟨_, _, _, o117, -⟩ := id hSe
  obtain ⟨⟨gs, o121, hgs⟩, hsl2, hsl3⟩ := id hSl
  have hl : lv_has ls 2 [(0, .ref (xa cx 0)), (1, .int h)] := hl
  refine lv_aload_n hx hb dX4_build_0 rfl (lv_at hl 0 rfl) ?_
  refine nv_get F hW (by omega) m0 rfl iX4 1 (by decide) tw_149 rfl dX4_build_1 ?_
  refine lv_iload_n hx hb dX4_build_4 rfl (lv_at hl 1 rfl) ?_
  refine cl_ip (cl_run (rest := []) F hW e_X4_71 (c_has hI l h3b hL hk h) ⟨Nat.le_of_ble_eq_true rfl, Nat.le_of_ble_eq_true rfl⟩ (by omega) o3 rfl rfl rfl hl (Nat.le_of_ble_eq_true rfl) dX4_build_5 ⟨Nat.zero_le _, Nat.zero_le _⟩) hW (fun H locs hW => ?_)
  refine nv_bne (tgt := 13) F dX4_build_8 (by decide) (fun c_1 => ?_) (fun c_1 => ?_)
  · skip
    obtain ⟨j, hj, rfl⟩ := inR_of c_1 (by omega)
    refine lv_aload_n hx hb dX4_build_13 rfl (lv_at hl 0 rfl) ?_
    refine nv_get F hW (by omega) m0 rfl iX4 1 (by decide) tw_149 rfl dX4_build_14 ?_
    refine lv_iload_n hx hb dX4_build_17 rfl (lv_at hl 1 rfl) ?_
    refine cl_ip (cl_run (rest := []) F hW e_X4_87 (c_standsN hI l h3b hL hk j (by omega)) ⟨Nat.le_of_ble_eq_true rfl, Nat.le_of_ble_eq_true rfl⟩ (by omega) o3 rfl rfl rfl hl (Nat.le_of_ble_eq_true rfl) dX4_build_18 ⟨Nat.zero_le _, Nat.zero_le _⟩) hW (fun H locs hW => ?_)
    refine nv_beq (tgt := 27) F dX4_build_21 (by decide) (fun c_2 => ?_) (fun c_2 => ?_)
    · skip
      refine lv_aload_n hx hb dX4_build_27 rfl (lv_at hl 0 rfl) ?_
      refine nv_get F hW (by omega) m0 rfl iX4 3 (by decide) tw_151 rfl dX4_build_28 ?_
      refine lv_aload_n hx hb dX4_build_31 rfl (lv_at hl 0 rfl) ?_
      refine nv_get F hW (by omega) m0 rfl iX4 1 (by decide) tw_149 rfl dX4_build_32 ?_
      refine cl_v (cl_run (rest := []) F hW e_X4_99 (c_remember hI l (by omega) hPa h3b (by omega) hL hk.1) ⟨Nat.le_of_ble_eq_true rfl, Nat.le_of_ble_eq_true rfl⟩ (by omega) o17 rfl rfl rfl hl (Nat.le_of_ble_eq_true rfl) dX4_build_35 ⟨Nat.zero_le _, Nat.zero_le _⟩) hW (fun μ3 H locs q_3 hW => ?_)
      obtain ⟨hP_3, ho_3⟩ := q_3
      have o0_3 := (ho_3 0 (by omega)).trans m0
      have o1_3 := (ho_3 1 (by omega)).trans o1
      have o3_3 := (ho_3 3 (by omega)).trans o3
      have o10_3 := (ho_3 10 (by omega)).trans o10
      have o117_3 := (ho_3 117 (by omega)).trans o117
      have o121_3 := (ho_3 121 (by omega)).trans o121
      have hLx3_3 := laneR_off hL ho_3 (by omega)
      have hLx10_3 := laneR_off hLT ho_3 (by omega)
      obtain ⟨_, _, o17_3, -⟩ := id hP_3
      refine lv_aload_n hx hb dX4_build_38 rfl (lv_at hl 0 rfl) ?_
      refine nv_get F hW (by omega) o0_3 rfl iX4 1 (by decide) tw_149 rfl dX4_build_39 ?_
      refine lv_iload_n hx hb dX4_build_42 rfl (lv_at hl 1 rfl) ?_
      refine cl_ie (cl_run (rest := []) F hW e_X4_128 (c_raise hI l h3b hLx3_3 hk j (by omega)) ⟨Nat.le_of_ble_eq_true rfl, Nat.le_of_ble_eq_true rfl⟩ (by omega) o3_3 rfl rfl rfl hl (Nat.le_of_ble_eq_true rfl) dX4_build_43 ⟨Nat.zero_le _, Nat.zero_le _⟩) hW (fun μ4 H locs q_4 hW => ?_)
      obtain ⟨hL_4, ho_4⟩ := q_4
      obtain ⟨_, _, _, _, _, _, o3_4, -⟩ := id hL_4
      have hk_4 := lok_raiseL hk j
      have o0_4 := (ho_4 0 (by omega)).trans o0_3
      have o1_4 := (ho_4 1 (by omega)).trans o1_3
      have o10_4 := (ho_4 10 (by omega)).trans o10_3
      have o117_4 := (ho_4 117 (by omega)).trans o117_3
      have o121_4 := (ho_4 121 (by omega)).trans o121_3
      have o17_4 := (ho_4 17 (by omega)).trans o17_3
      have hLx10_4 := laneR_off hLx10_3 ho_4 (by omega)
      refine lv_pop hx hb dX4_build_46 rfl ?_
      refine lv_aload_n hx hb dX4_build_47 rfl (lv_at hl 0 rfl) ?_
      refine nv_get F hW (by omega) o0_4 rfl iX4 1 (by decide) tw_149 rfl dX4_build_48 ?_
      refine lv_iload_n hx hb dX4_build_51 rfl (lv_at hl 1 rfl) ?_
      refine cl_ip (cl_run (rest := []) F hW e_X4_78 (c_stonesOf hI l h3b hL_4 hk_4 j (by rw [raise_n]; exact hj)) ⟨Nat.le_of_ble_eq_true rfl, Nat.le_of_ble_eq_true rfl⟩ (by omega) o3_4 rfl rfl rfl hl (Nat.le_of_ble_eq_true rfl) dX4_build_52 ⟨Nat.zero_le _, Nat.zero_le _⟩) hW (fun H locs hW => ?_)
      refine nv_top (y := ((nI (Ls (AL S) j)))) (by rw [raise_s]) ?_
      exact rt_ie F hr hlk hW (by unfold r_build; rw [inR_j hj (by omega), if_pos rfl, nI_clamp (by omega), ‹lst (AL S) j = _›]; rfl) ⟨by unfold s_build; rw [inR_j hj (by omega), nI_clamp (by omega), ‹lst (AL S) j = _›]; exact ⟨o0_4, (textR_off (textR_off hT ho_3 (by omega)) ho_4 (by omega)), hL_4, ⟨_, hLx10_4⟩, (pastR_off hP_3 ho_4 (by omega)), (seenR_off (seenR_off hSe ho_3 (by omega)) ho_4 (by omega)), (slotR_off (slotR_off hSl ho_3 (by omega)) ho_4 (by omega))⟩, (fun z hz => by rw [ho_4 z (by omega)]; rw [ho_3 z (by omega)])⟩ dX4_build_55
    · skip
      refine lv_bipush (v := (-3)) hx hb dX4_build_24 (by decide) ?_
      exact rt_ie F hr hlk hW (by unfold r_build; rw [inR_j hj (by omega), if_pos rfl, nI_clamp (by omega), ‹lst (AL S) j = _›]; rfl) ⟨by unfold s_build; rw [inR_j hj (by omega), nI_clamp (by omega), ‹lst (AL S) j = _›]; exact hM, off_rf⟩ dX4_build_26
  · skip
    refine lv_iconst (v := (-1)) hx hb dX4_build_11 (by decide) ?_
    exact rt_ie F hr hlk hW (by unfold r_build; rw [‹inR h (Ln (AL S)) = false›]; rfl) ⟨by unfold s_build; rw [‹inR h (Ln (AL S)) = false›]; exact hM, off_rf⟩ dX4_build_12

set_option maxHeartbeats 4000000 in
set_option maxRecDepth 100000 in
theorem k_undo {cx : CX} (hI : xI cx) (l : Launch) {μ : ME} {S : AS} {B : Nat} (hN : 136 ≤ xN cx) (hM : mainR cx μ S) (hA : aok S B) (hB : B < 800000) : MT cx l yX4_undo cX4_undo 1 (some .int) 3 114 [.ref (xa cx 0)] μ (Ei cx (r_undo S) (fun μ1 => mainR cx μ1 (s_undo S) ∧ off 0 136 μ μ1)) := by
  refine mt_of hI (by decide) (Nat.le_of_ble_eq_true rfl) ?_
  intro p e s m below meth c ls F hr hlk hW hl
  have hx := F.1.1
  have hb := F.1.2.1
  have hts := F.1.2.2.2.2
  obtain ⟨m0, hT, hL, ⟨LT, hLT⟩, hPa, hSe, hSl⟩ := id hM
  have hk := hA.2.1
  have hn6 := hk.1
  have h3b : 3 + 7 ≤ xN cx := by omega
  have h10b : 10 + 7 ≤ xN cx := by omega
  obtain ⟨_, _, _, _, _, _, o3, -⟩ := id hL
  obtain ⟨_, _, _, _, _, _, o10, -⟩ := id hLT
  obtain ⟨_, o1, -⟩ := id hT
  obtain ⟨_, _, o17, -⟩ := id hPa
  obtain ⟨_, _, _, o117, -⟩ := id hSe
  obtain ⟨⟨gs, o121, hgs⟩, hsl2, hsl3⟩ := id hSl
  have hl : lv_has ls 1 [(0, .ref (xa cx 0))] := hl
  refine lv_aload_n hx hb dX4_undo_0 rfl (lv_at hl 0 rfl) ?_
  refine nv_get F hW (by omega) m0 rfl iX4 3 (by decide) tw_151 rfl dX4_undo_1 ?_
  refine cl_ip (cl_run (rest := []) F hW e_X4_131 (c_psize hI l (by omega) hPa) ⟨Nat.le_of_ble_eq_true rfl, Nat.le_of_ble_eq_true rfl⟩ (by omega) o17 rfl rfl rfl hl (Nat.le_of_ble_eq_true rfl) dX4_undo_4 ⟨Nat.zero_le _, Nat.zero_le _⟩) hW (fun H locs hW => ?_)
  refine nv_zne (tgt := 13) F (by have := hA.2.2.1.1; omega) dX4_undo_7 (by decide) (fun c_1 => ?_) (fun c_1 => ?_)
  · skip
    refine lv_aload_n hx hb dX4_undo_13 rfl (lv_at hl 0 rfl) ?_
    refine nv_get F hW (by omega) m0 rfl iX4 3 (by decide) tw_151 rfl dX4_undo_14 ?_
    refine lv_aload_n hx hb dX4_undo_17 rfl (lv_at hl 0 rfl) ?_
    refine nv_get F hW (by omega) m0 rfl iX4 1 (by decide) tw_149 rfl dX4_undo_18 ?_
    refine cl_v (cl_run (rest := []) F hW e_X4_132 (c_goBack hI l (by omega) hPa h3b (by omega) hL (hA.2.2.1.2 0 (by omega)).1 (by omega)) ⟨Nat.le_of_ble_eq_true rfl, Nat.le_of_ble_eq_true rfl⟩ (by omega) o17 rfl rfl rfl hl (Nat.le_of_ble_eq_true rfl) dX4_undo_21 ⟨Nat.zero_le _, Nat.zero_le _⟩) hW (fun μ2 H locs q_2 hW => ?_)
    obtain ⟨hLg, hPg, hog⟩ := q_2
    have og0 := (hog 0 (by omega) (by omega)).trans m0
    have og1 := (hog 1 (by omega) (by omega)).trans o1
    have og10 := (hog 10 (by omega) (by omega)).trans o10
    have og117 := (hog 117 (by omega) (by omega)).trans o117
    have og121 := (hog 121 (by omega) (by omega)).trans o121
    obtain ⟨_, _, og17, -⟩ := id hPg
    refine lv_aload_n hx hb dX4_undo_24 rfl (lv_at hl 0 rfl) ?_
    refine nv_get F hW (by omega) og0 rfl iX4 3 (by decide) tw_151 rfl dX4_undo_25 ?_
    refine cl_ip (cl_run (rest := []) F hW e_X4_131 (c_psize hI l (by omega) hPg) ⟨Nat.le_of_ble_eq_true rfl, Nat.le_of_ble_eq_true rfl⟩ (by omega) og17 rfl rfl rfl hl (Nat.le_of_ble_eq_true rfl) dX4_undo_28 ⟨Nat.zero_le _, Nat.zero_le _⟩) hW (fun H locs hW => ?_)
    have sm : ∀ i, (i < 3 ∨ 10 ≤ i) → (i < 17 ∨ 117 ≤ i) → μ2 i = μ i := fun i h1 h2 => hog i h1 h2
    have gT : textR cx μ2 1 (At S) (An S) := by
      obtain ⟨f, a0, a1, a2⟩ := hT
      exact ⟨f, (sm _ (by omega) (by omega)).trans a0, (sm _ (by omega) (by omega)).trans a1, a2⟩
    have gLT : laneR cx μ2 10 LT := laneR_same hLT (fun i h1 h2 => sm i (by omega) (by omega))
    have gS : seenR cx μ2 117 (Ah S) (Ao S) (Ab S) (Ay S) := by
      obtain ⟨f1, f2, f3, a0, a1, a2, a3, a4⟩ := hSe
      exact ⟨f1, f2, f3, (sm _ (by omega) (by omega)).trans a0, (sm _ (by omega) (by omega)).trans a1, (sm _ (by omega) (by omega)).trans a2, (sm _ (by omega) (by omega)).trans a3, a4⟩
    have gK : slotR cx μ2 (Ak S) (AK S) := ⟨⟨gs, (sm _ (by omega) (by omega)).trans o121, hgs⟩, fun j hj => (hsl2 j hj).elim (fun Lj hLj => ⟨Lj, laneR_same hLj (fun i h1 h2 => sm i (by omega) (by omega))⟩), fun j hj hb => laneR_same (hsl3 j hj hb) (fun i h1 h2 => sm i (by omega) (by omega))⟩
    exact rt_ie F hr hlk hW (by unfold r_undo; rw [if_neg (by omega)]) ⟨by unfold s_undo; rw [if_neg (by omega)]; exact ⟨og0, gT, hLg, ⟨LT, gLT⟩, hPg, gS, gK⟩, fun i hi => sm i (by omega) (by omega)⟩ dX4_undo_31
  · skip
    refine lv_bipush (v := (-3)) hx hb dX4_undo_10 (by decide) ?_
    exact rt_ie F hr hlk hW (by unfold r_undo; rw [if_pos (by omega)]) ⟨by unfold s_undo; rw [if_pos (by omega)]; exact hM, off_rf⟩ dX4_undo_12

def r_later (S : AS) (h n w : Int32) : Int32 := if inR h (Ln (AL S)) then (if inR n 31 && halI w then (if w = nI 0 then nI (Ll (hrs n.toNatClampNeg (AL S)) h.toNatClampNeg) else nI (lgr (hrs n.toNatClampNeg (AL S)) h.toNatClampNeg)) else -2) else -1
def r_standing (S : AS) (n : Int32) : Int32 := if inR n 31 then nI (LU (hrs n.toNatClampNeg (AL S))) else -2
theorem h31_hi {x : Int32} (c : nI 30 < x) : inR x 31 = false := by
  rw [Int32.lt_iff_toInt_lt, nI_toInt (by decide)] at c
  apply decide_eq_false
  omega
theorem h31_in {x : Int32} (c : ¬ x < 0) (d : ¬ nI 30 < x) : inR x 31 = true := by
  rw [Int32.lt_iff_toInt_lt, nI_toInt (by decide)] at d
  rw [Int32.lt_iff_toInt_lt] at c
  have z : (0 : Int32).toInt = 0 := rfl
  apply decide_eq_true
  omega
theorem h31_le {x : Int32} (c : ¬ x ≤ nI 30) : nI 30 < x := by
  rw [Int32.le_iff_toInt_le] at c
  rw [Int32.lt_iff_toInt_lt]
  omega
theorem h31_nlt {x : Int32} (c : x ≤ nI 30) : ¬ nI 30 < x := by
  rw [Int32.le_iff_toInt_le] at c
  rw [Int32.lt_iff_toInt_lt]
  omega
theorem hrs_n (n : Nat) (L : LN) : Ln (hrs n L) = Ln L := by
  induction n with
  | zero => rfl
  | succ n ih => exact ih
theorem halI_of {x : Int32} (h : halI x = true) : x = nI 0 ∨ x = nI 1 := of_decide_eq_true h

set_option maxHeartbeats 4000000 in
set_option maxRecDepth 100000 in
theorem k_later {cx : CX} (hI : xI cx) (l : Launch) {μ : ME} {S : AS} {B : Nat} (hN : 136 ≤ xN cx) (hM : mainR cx μ S) (hA : aok S B) (hB : B < 800000) (h n w : Int32) : MT cx l yX4_later cX4_later 4 (some .int) 4 137 [.ref (xa cx 0), .int h, .int n, .int w] μ (Ei cx (r_later S h n w) (fun μ1 => mainR cx μ1 S ∧ off 0 136 μ μ1)) := by
  refine mt_of hI (by decide) (Nat.le_of_ble_eq_true rfl) ?_
  intro p e s m below meth c ls F hr hlk hW hl
  have hx := F.1.1
  have hb := F.1.2.1
  have hts := F.1.2.2.2.2
  obtain ⟨m0, hT, hL, ⟨LT, hLT⟩, hPa, hSe, hSl⟩ := id hM
  have hk := hA.2.1
  have hn6 := hk.1
  have h3b : 3 + 7 ≤ xN cx := by omega
  have h10b : 10 + 7 ≤ xN cx := by omega
  obtain ⟨_, _, _, _, _, _, o3, -⟩ := id hL
  obtain ⟨_, _, _, _, _, _, o10, -⟩ := id hLT
  obtain ⟨_, o1, -⟩ := id hT
  obtain ⟨_, _, o17, -⟩ := id hPa
  obtain ⟨_, _, _, o117, -⟩ := id hSe
  obtain ⟨⟨gs, o121, hgs⟩, hsl2, hsl3⟩ := id hSl
  have hl : lv_has ls 4 [(0, .ref (xa cx 0)), (1, .int h), (2, .int n), (3, .int w)] := hl
  refine lv_aload_n hx hb dX4_later_0 rfl (lv_at hl 0 rfl) ?_
  refine nv_get F hW (by omega) m0 rfl iX4 1 (by decide) tw_149 rfl dX4_later_1 ?_
  refine lv_iload_n hx hb dX4_later_4 rfl (lv_at hl 1 rfl) ?_
  refine cl_ip (cl_run (rest := []) F hW e_X4_71 (c_has hI l h3b hL hk h) ⟨Nat.le_of_ble_eq_true rfl, Nat.le_of_ble_eq_true rfl⟩ (by omega) o3 rfl rfl rfl hl (Nat.le_of_ble_eq_true rfl) dX4_later_5 ⟨Nat.zero_le _, Nat.zero_le _⟩) hW (fun H locs hW => ?_)
  refine nv_bne (tgt := 13) F dX4_later_8 (by decide) (fun c_1 => ?_) (fun c_1 => ?_)
  · skip
    obtain ⟨j, hj, rfl⟩ := inR_of c_1 (by omega)
    refine lv_iload_n hx hb dX4_later_13 rfl (lv_at hl 2 rfl) ?_
    refine lv_if_lt (tgt := 30) hx hb dX4_later_14 (by decide) (fun c_2 => ?_) (fun c_2 => ?_)
    · skip
      refine lv_bipush (v := (-2)) hx hb dX4_later_30 (by decide) ?_
      exact rt_ie F hr hlk hW (by unfold r_later; rw [inR_j hj (by omega), if_pos rfl, (show inR n 31 = false by first | exact inR_neg (by assumption) | exact h31_hi (by assumption))]; rfl) ⟨hM, off_rf⟩ dX4_later_32
    · skip
      refine lv_iload_n hx hb dX4_later_17 rfl (lv_at hl 2 rfl) ?_
      refine lv_bipush (v := nI 30) hx hb dX4_later_18 (by decide) ?_
      refine lv_icmp_gt (tgt := 30) hx hb dX4_later_20 (by decide) (fun c_3 => ?_) (fun c_3 => ?_)
      · skip
        refine lv_bipush (v := (-2)) hx hb dX4_later_30 (by decide) ?_
        exact rt_ie F hr hlk hW (by unfold r_later; rw [inR_j hj (by omega), if_pos rfl, (show inR n 31 = false by first | exact inR_neg (by assumption) | exact h31_hi (by assumption))]; rfl) ⟨hM, off_rf⟩ dX4_later_32
      · skip
        refine lv_iload_n hx hb dX4_later_23 rfl (lv_at hl 3 rfl) ?_
        refine cl_ip (cl_runS (rest := []) F hW e_X4_135 (c_isHalf hI l w) ⟨Nat.le_of_ble_eq_true rfl, Nat.le_of_ble_eq_true rfl⟩ rfl rfl hl (Nat.le_of_ble_eq_true rfl) dX4_later_24 ⟨Nat.zero_le _, Nat.zero_le _⟩) hW (fun H locs hW => ?_)
        refine nv_bne (tgt := 33) F dX4_later_27 (by decide) (fun c_4 => ?_) (fun c_4 => ?_)
        · skip
          obtain ⟨m, hm, rfl⟩ := inR_of (h31_in c_2 c_3) (by omega)
          refine lv_aload_n hx hb dX4_later_33 rfl (lv_at hl 0 rfl) ?_
          refine nv_get F hW (by omega) m0 rfl iX4 2 (by decide) tw_150 rfl dX4_later_34 ?_
          refine lv_aload_n hx hb dX4_later_37 rfl (lv_at hl 0 rfl) ?_
          refine nv_get F hW (by omega) m0 rfl iX4 1 (by decide) tw_149 rfl dX4_later_38 ?_
          refine cl_v (cl_run (rest := []) F hW e_X4_138 (c_copyFrom hI l h10b h3b (by omega) hLT hL (hk).1) ⟨Nat.le_of_ble_eq_true rfl, Nat.le_of_ble_eq_true rfl⟩ (by omega) o10 rfl rfl rfl hl (Nat.le_of_ble_eq_true rfl) dX4_later_41 ⟨Nat.zero_le _, Nat.zero_le _⟩) hW (fun μ5 H locs q_5 hW => ?_)
          obtain ⟨hL_5, ho_5⟩ := q_5
          obtain ⟨_, _, _, _, _, _, o10_5, -⟩ := id hL_5
          have hk_5 := hk
          have o0_5 := (ho_5 0 (by omega)).trans m0
          have o1_5 := (ho_5 1 (by omega)).trans o1
          have o3_5 := (ho_5 3 (by omega)).trans o3
          have o17_5 := (ho_5 17 (by omega)).trans o17
          have o117_5 := (ho_5 117 (by omega)).trans o117
          have o121_5 := (ho_5 121 (by omega)).trans o121
          have hLx3_5 := laneR_off hL ho_5 (by omega)
          refine lv_aload_n hx hb dX4_later_44 rfl (lv_at hl 0 rfl) ?_
          refine nv_get F hW (by omega) o0_5 rfl iX4 2 (by decide) tw_150 rfl dX4_later_45 ?_
          refine lv_iload_n hx hb dX4_later_48 rfl (lv_at hl 2 rfl) ?_
          refine cl_v (cl_run (rest := []) F hW e_X4_141 (c_passHours hI l h10b hL_5 hk_5 m (by omega) (by omega)) ⟨Nat.le_of_ble_eq_true rfl, Nat.le_of_ble_eq_true rfl⟩ (by omega) o10_5 rfl rfl rfl hl (Nat.le_of_ble_eq_true rfl) dX4_later_49 ⟨Nat.zero_le _, Nat.zero_le _⟩) hW (fun μ6 H locs q_6 hW => ?_)
          obtain ⟨hL_6, ho_6⟩ := q_6
          obtain ⟨_, _, _, _, _, _, o10_6, -⟩ := id hL_6
          have hk_6 := lok_hrs hk_5 m
          have o0_6 := (ho_6 0 (by omega)).trans o0_5
          have o1_6 := (ho_6 1 (by omega)).trans o1_5
          have o3_6 := (ho_6 3 (by omega)).trans o3_5
          have o17_6 := (ho_6 17 (by omega)).trans o17_5
          have o117_6 := (ho_6 117 (by omega)).trans o117_5
          have o121_6 := (ho_6 121 (by omega)).trans o121_5
          have hLx3_6 := laneR_off hLx3_5 ho_6 (by omega)
          refine lv_iload_n hx hb dX4_later_52 rfl (lv_at hl 3 rfl) ?_
          refine lv_if_ne (tgt := 67) hx hb dX4_later_53 (by decide) (fun c_7 => ?_) (fun c_7 => ?_)
          · skip
            refine lv_aload_n hx hb dX4_later_67 rfl (lv_at hl 0 rfl) ?_
            refine nv_get F hW (by omega) o0_6 rfl iX4 2 (by decide) tw_150 rfl dX4_later_68 ?_
            refine lv_iload_n hx hb dX4_later_71 rfl (lv_at hl 1 rfl) ?_
            refine cl_ip (cl_run (rest := []) F hW e_X4_96 (c_groundOf hI l h10b hL_6 hk_6 (by omega) j (by rw [hrs_n]; exact hj)) ⟨Nat.le_of_ble_eq_true rfl, Nat.le_of_ble_eq_true rfl⟩ (by omega) o10_6 rfl rfl rfl hl (Nat.le_of_ble_eq_true rfl) dX4_later_72 ⟨Nat.zero_le _, Nat.zero_le _⟩) hW (fun H locs hW => ?_)
            have hoz : off 10 7 μ μ6 := (fun z hz => by rw [ho_6 z (by omega)]; rw [ho_5 z (by omega)])
            exact rt_ie F hr hlk hW (by unfold r_later; rw [inR_j hj (by omega), if_pos rfl, inR_j hm (by omega), ‹halI w = true›, nI_clamp (by omega), nI_clamp (by omega)]; show _ = (if w = nI 0 then _ else _); first | (rw [if_pos (by assumption)]; done) | (rw [if_neg (by assumption)]; done)) ⟨mainR_trial hM hoz ⟨_, hL_6⟩, off_big hoz (by omega)⟩ dX4_later_75
          · skip
            refine lv_aload_n hx hb dX4_later_56 rfl (lv_at hl 0 rfl) ?_
            refine nv_get F hW (by omega) o0_6 rfl iX4 2 (by decide) tw_150 rfl dX4_later_57 ?_
            refine lv_iload_n hx hb dX4_later_60 rfl (lv_at hl 1 rfl) ?_
            refine cl_ip (cl_run (rest := []) F hW e_X4_90 (c_loadOf hI l h10b hL_6 hk_6 j (by rw [hrs_n]; exact hj)) ⟨Nat.le_of_ble_eq_true rfl, Nat.le_of_ble_eq_true rfl⟩ (by omega) o10_6 rfl rfl rfl hl (Nat.le_of_ble_eq_true rfl) dX4_later_61 ⟨Nat.zero_le _, Nat.zero_le _⟩) hW (fun H locs hW => ?_)
            refine lv_goto (tgt := 75) hx hb dX4_later_64 (by decide) ?_
            have hoz : off 10 7 μ μ6 := (fun z hz => by rw [ho_6 z (by omega)]; rw [ho_5 z (by omega)])
            exact rt_ie F hr hlk hW (by unfold r_later; rw [inR_j hj (by omega), if_pos rfl, inR_j hm (by omega), ‹halI w = true›, nI_clamp (by omega), nI_clamp (by omega)]; show _ = (if w = nI 0 then _ else _); first | (rw [if_pos (by assumption)]; done) | (rw [if_neg (by assumption)]; done)) ⟨mainR_trial hM hoz ⟨_, hL_6⟩, off_big hoz (by omega)⟩ dX4_later_75
        · skip
          refine lv_bipush (v := (-2)) hx hb dX4_later_30 (by decide) ?_
          exact rt_ie F hr hlk hW (by unfold r_later; rw [inR_j hj (by omega), if_pos rfl, ‹halI w = false›, Bool.and_false]; rfl) ⟨hM, off_rf⟩ dX4_later_32
  · skip
    refine lv_iconst (v := (-1)) hx hb dX4_later_11 (by decide) ?_
    exact rt_ie F hr hlk hW (by unfold r_later; rw [‹inR h (Ln (AL S)) = false›]; rfl) ⟨hM, off_rf⟩ dX4_later_12

set_option maxHeartbeats 4000000 in
set_option maxRecDepth 100000 in
theorem k_standing {cx : CX} (hI : xI cx) (l : Launch) {μ : ME} {S : AS} {B : Nat} (hN : 136 ≤ xN cx) (hM : mainR cx μ S) (hA : aok S B) (hB : B < 800000) (n : Int32) : MT cx l yX4_standing cX4_standing 2 (some .int) 4 137 [.ref (xa cx 0), .int n] μ (Ei cx (r_standing S n) (fun μ1 => mainR cx μ1 S ∧ off 0 136 μ μ1)) := by
  refine mt_of hI (by decide) (Nat.le_of_ble_eq_true rfl) ?_
  intro p e s m below meth c ls F hr hlk hW hl
  have hx := F.1.1
  have hb := F.1.2.1
  have hts := F.1.2.2.2.2
  obtain ⟨m0, hT, hL, ⟨LT, hLT⟩, hPa, hSe, hSl⟩ := id hM
  have hk := hA.2.1
  have hn6 := hk.1
  have h3b : 3 + 7 ≤ xN cx := by omega
  have h10b : 10 + 7 ≤ xN cx := by omega
  obtain ⟨_, _, _, _, _, _, o3, -⟩ := id hL
  obtain ⟨_, _, _, _, _, _, o10, -⟩ := id hLT
  obtain ⟨_, o1, -⟩ := id hT
  obtain ⟨_, _, o17, -⟩ := id hPa
  obtain ⟨_, _, _, o117, -⟩ := id hSe
  obtain ⟨⟨gs, o121, hgs⟩, hsl2, hsl3⟩ := id hSl
  have hl : lv_has ls 2 [(0, .ref (xa cx 0)), (1, .int n)] := hl
  refine lv_iload_n hx hb dX4_standing_0 rfl (lv_at hl 1 rfl) ?_
  refine lv_if_lt (tgt := 10) hx hb dX4_standing_1 (by decide) (fun c_1 => ?_) (fun c_1 => ?_)
  · skip
    refine lv_bipush (v := (-2)) hx hb dX4_standing_10 (by decide) ?_
    exact rt_ie F hr hlk hW (by unfold r_standing; rw [(show inR n 31 = false by first | exact inR_neg (by assumption) | exact h31_hi (h31_le (by assumption)))]; rfl) ⟨hM, off_rf⟩ dX4_standing_12
  · skip
    refine lv_iload_n hx hb dX4_standing_4 rfl (lv_at hl 1 rfl) ?_
    refine lv_bipush (v := nI 30) hx hb dX4_standing_5 (by decide) ?_
    refine lv_icmp_le (tgt := 13) hx hb dX4_standing_7 (by decide) (fun c_2 => ?_) (fun c_2 => ?_)
    · skip
      obtain ⟨m, hm, rfl⟩ := inR_of (h31_in c_1 (h31_nlt c_2)) (by omega)
      refine lv_aload_n hx hb dX4_standing_13 rfl (lv_at hl 0 rfl) ?_
      refine nv_get F hW (by omega) m0 rfl iX4 2 (by decide) tw_150 rfl dX4_standing_14 ?_
      refine lv_aload_n hx hb dX4_standing_17 rfl (lv_at hl 0 rfl) ?_
      refine nv_get F hW (by omega) m0 rfl iX4 1 (by decide) tw_149 rfl dX4_standing_18 ?_
      refine cl_v (cl_run (rest := []) F hW e_X4_138 (c_copyFrom hI l h10b h3b (by omega) hLT hL (hk).1) ⟨Nat.le_of_ble_eq_true rfl, Nat.le_of_ble_eq_true rfl⟩ (by omega) o10 rfl rfl rfl hl (Nat.le_of_ble_eq_true rfl) dX4_standing_21 ⟨Nat.zero_le _, Nat.zero_le _⟩) hW (fun μ3 H locs q_3 hW => ?_)
      obtain ⟨hL_3, ho_3⟩ := q_3
      obtain ⟨_, _, _, _, _, _, o10_3, -⟩ := id hL_3
      have hk_3 := hk
      have o0_3 := (ho_3 0 (by omega)).trans m0
      have o1_3 := (ho_3 1 (by omega)).trans o1
      have o3_3 := (ho_3 3 (by omega)).trans o3
      have o17_3 := (ho_3 17 (by omega)).trans o17
      have o117_3 := (ho_3 117 (by omega)).trans o117
      have o121_3 := (ho_3 121 (by omega)).trans o121
      have hLx3_3 := laneR_off hL ho_3 (by omega)
      refine lv_aload_n hx hb dX4_standing_24 rfl (lv_at hl 0 rfl) ?_
      refine nv_get F hW (by omega) o0_3 rfl iX4 2 (by decide) tw_150 rfl dX4_standing_25 ?_
      refine lv_iload_n hx hb dX4_standing_28 rfl (lv_at hl 1 rfl) ?_
      refine cl_v (cl_run (rest := []) F hW e_X4_141 (c_passHours hI l h10b hL_3 hk_3 m (by omega) (by omega)) ⟨Nat.le_of_ble_eq_true rfl, Nat.le_of_ble_eq_true rfl⟩ (by omega) o10_3 rfl rfl rfl hl (Nat.le_of_ble_eq_true rfl) dX4_standing_29 ⟨Nat.zero_le _, Nat.zero_le _⟩) hW (fun μ4 H locs q_4 hW => ?_)
      obtain ⟨hL_4, ho_4⟩ := q_4
      obtain ⟨_, _, _, _, _, _, o10_4, -⟩ := id hL_4
      have hk_4 := lok_hrs hk_3 m
      have o0_4 := (ho_4 0 (by omega)).trans o0_3
      have o1_4 := (ho_4 1 (by omega)).trans o1_3
      have o3_4 := (ho_4 3 (by omega)).trans o3_3
      have o17_4 := (ho_4 17 (by omega)).trans o17_3
      have o117_4 := (ho_4 117 (by omega)).trans o117_3
      have o121_4 := (ho_4 121 (by omega)).trans o121_3
      have hLx3_4 := laneR_off hLx3_3 ho_4 (by omega)
      refine lv_aload_n hx hb dX4_standing_32 rfl (lv_at hl 0 rfl) ?_
      refine nv_get F hW (by omega) o0_4 rfl iX4 2 (by decide) tw_150 rfl dX4_standing_33 ?_
      refine cl_ip (cl_run (rest := []) F hW e_X4_145 (c_standingBits hI l h10b hL_4 hk_4) ⟨Nat.le_of_ble_eq_true rfl, Nat.le_of_ble_eq_true rfl⟩ (by omega) o10_4 rfl rfl rfl hl (Nat.le_of_ble_eq_true rfl) dX4_standing_36 ⟨Nat.zero_le _, Nat.zero_le _⟩) hW (fun H locs hW => ?_)
      have hoz : off 10 7 μ μ4 := (fun z hz => by rw [ho_4 z (by omega)]; rw [ho_3 z (by omega)])
      exact rt_ie F hr hlk hW (by unfold r_standing; rw [inR_j hm (by omega), if_pos rfl, nI_clamp (by omega)]) ⟨mainR_trial hM hoz ⟨_, hL_4⟩, off_big hoz (by omega)⟩ dX4_standing_39
    · skip
      refine lv_bipush (v := (-2)) hx hb dX4_standing_10 (by decide) ?_
      exact rt_ie F hr hlk hW (by unfold r_standing; rw [(show inR n 31 = false by first | exact inR_neg (by assumption) | exact h31_hi (h31_le (by assumption)))]; rfl) ⟨hM, off_rf⟩ dX4_standing_12

set_option maxHeartbeats 4000000 in
set_option maxRecDepth 100000 in
theorem k_rings {cx : CX} (hI : xI cx) (l : Launch) {μ : ME} {S : AS} {B : Nat} (hN : 136 ≤ xN cx) (hM : mainR cx μ S) (hA : aok S B) (hB : B < 800000) : MT cx l yX4_rings cX4_rings 1 (some .int) 1 22 [.ref (xa cx 0)] μ (Ei cx (nI (ringL (AL S))) (fun μ1 => mainR cx μ1 S ∧ off 0 136 μ μ1)) := by
  refine mt_of hI (by decide) (Nat.le_of_ble_eq_true rfl) ?_
  intro p e s m below meth c ls F hr hlk hW hl
  have hx := F.1.1
  have hb := F.1.2.1
  have hts := F.1.2.2.2.2
  obtain ⟨m0, hT, hL, ⟨LT, hLT⟩, hPa, hSe, hSl⟩ := id hM
  have hk := hA.2.1
  have hn6 := hk.1
  have h3b : 3 + 7 ≤ xN cx := by omega
  have h10b : 10 + 7 ≤ xN cx := by omega
  obtain ⟨_, _, _, _, _, _, o3, -⟩ := id hL
  obtain ⟨_, _, _, _, _, _, o10, -⟩ := id hLT
  obtain ⟨_, o1, -⟩ := id hT
  obtain ⟨_, _, o17, -⟩ := id hPa
  obtain ⟨_, _, _, o117, -⟩ := id hSe
  obtain ⟨⟨gs, o121, hgs⟩, hsl2, hsl3⟩ := id hSl
  have hl : lv_has ls 1 [(0, .ref (xa cx 0))] := hl
  refine lv_aload_n hx hb dX4_rings_0 rfl (lv_at hl 0 rfl) ?_
  refine nv_get F hW (by omega) m0 rfl iX4 1 (by decide) tw_149 rfl dX4_rings_1 ?_
  refine cl_ip (cl_run (rest := []) F hW e_X4_148 (c_ringBits hI l h3b hL hk) ⟨Nat.le_of_ble_eq_true rfl, Nat.le_of_ble_eq_true rfl⟩ (by omega) o3 rfl rfl rfl hl (Nat.le_of_ble_eq_true rfl) dX4_rings_4 ⟨Nat.zero_le _, Nat.zero_le _⟩) hW (fun H locs hW => ?_)
  exact rt_ie F hr hlk hW rfl ⟨hM, off_rf⟩ dX4_rings_7

def fallsF (L : LN) (j : Nat) : Nat → Nat → Int32
  | 0, _ => -9
  | d + 1, i => if lst (hrs i L) j then fallsF L j d (i + 1) else nI i
def r_falls (S : AS) (h : Int32) : Int32 := if inR h (Ln (AL S)) then (if lst (AL S) h.toNatClampNeg then fallsF (AL S) h.toNatClampNeg 30 1 else -3) else -1

set_option maxHeartbeats 4000000 in
set_option maxRecDepth 100000 in
theorem k_falls {cx : CX} (hI : xI cx) (l : Launch) {μ : ME} {S : AS} {B : Nat} (hN : 136 ≤ xN cx) (hM : mainR cx μ S) (hA : aok S B) (hB : B < 800000) (h : Int32) : MT cx l yX4_falls cX4_falls 3 (some .int) 3 115 [.ref (xa cx 0), .int h] μ (Ei cx (r_falls S h) (fun μ1 => mainR cx μ1 S ∧ off 0 136 μ μ1)) := by
  refine mt_of hI (by decide) (Nat.le_of_ble_eq_true rfl) ?_
  intro p e s m below meth c ls F hr hlk hW hl
  have hx := F.1.1
  have hb := F.1.2.1
  have hts := F.1.2.2.2.2
  obtain ⟨m0, hT, hL, ⟨LT, hLT⟩, hPa, hSe, hSl⟩ := id hM
  have hk := hA.2.1
  have hn6 := hk.1
  have h3b : 3 + 7 ≤ xN cx := by omega
  have h10b : 10 + 7 ≤ xN cx := by omega
  obtain ⟨_, _, _, _, _, _, o3, -⟩ := id hL
  obtain ⟨_, _, _, _, _, _, o10, -⟩ := id hLT
  obtain ⟨_, o1, -⟩ := id hT
  obtain ⟨_, _, o17, -⟩ := id hPa
  obtain ⟨_, _, _, o117, -⟩ := id hSe
  obtain ⟨⟨gs, o121, hgs⟩, hsl2, hsl3⟩ := id hSl
  have hl : lv_has ls 3 [(0, .ref (xa cx 0)), (1, .int h)] := hl
  refine lv_aload_n hx hb dX4_falls_0 rfl (lv_at hl 0 rfl) ?_
  refine nv_get F hW (by omega) m0 rfl iX4 1 (by decide) tw_149 rfl dX4_falls_1 ?_
  refine lv_iload_n hx hb dX4_falls_4 rfl (lv_at hl 1 rfl) ?_
  refine cl_ip (cl_run (rest := []) F hW e_X4_71 (c_has hI l h3b hL hk h) ⟨Nat.le_of_ble_eq_true rfl, Nat.le_of_ble_eq_true rfl⟩ (by omega) o3 rfl rfl rfl hl (Nat.le_of_ble_eq_true rfl) dX4_falls_5 ⟨Nat.zero_le _, Nat.zero_le _⟩) hW (fun H locs hW => ?_)
  refine nv_bne (tgt := 13) F dX4_falls_8 (by decide) (fun c_1 => ?_) (fun c_1 => ?_)
  · skip
    obtain ⟨j, hj, rfl⟩ := inR_of c_1 (by omega)
    refine lv_aload_n hx hb dX4_falls_13 rfl (lv_at hl 0 rfl) ?_
    refine nv_get F hW (by omega) m0 rfl iX4 1 (by decide) tw_149 rfl dX4_falls_14 ?_
    refine lv_iload_n hx hb dX4_falls_17 rfl (lv_at hl 1 rfl) ?_
    refine cl_ip (cl_run (rest := []) F hW e_X4_87 (c_standsN hI l h3b hL hk j (by omega)) ⟨Nat.le_of_ble_eq_true rfl, Nat.le_of_ble_eq_true rfl⟩ (by omega) o3 rfl rfl rfl hl (Nat.le_of_ble_eq_true rfl) dX4_falls_18 ⟨Nat.zero_le _, Nat.zero_le _⟩) hW (fun H locs hW => ?_)
    refine nv_bne (tgt := 27) F dX4_falls_21 (by decide) (fun c_2 => ?_) (fun c_2 => ?_)
    · skip
      have hst : lst (AL S) j = true := c_2
      refine lv_aload_n hx hb dX4_falls_27 rfl (lv_at hl 0 rfl) ?_
      refine nv_get F hW (by omega) m0 rfl iX4 2 (by decide) tw_150 rfl dX4_falls_28 ?_
      refine lv_aload_n hx hb dX4_falls_31 rfl (lv_at hl 0 rfl) ?_
      refine nv_get F hW (by omega) m0 rfl iX4 1 (by decide) tw_149 rfl dX4_falls_32 ?_
      refine cl_v (cl_run (rest := []) F hW e_X4_138 (c_copyFrom hI l h10b h3b (by omega) hLT hL (hk).1) ⟨Nat.le_of_ble_eq_true rfl, Nat.le_of_ble_eq_true rfl⟩ (by omega) o10 rfl rfl rfl hl (Nat.le_of_ble_eq_true rfl) dX4_falls_35 ⟨Nat.zero_le _, Nat.zero_le _⟩) hW (fun μ3 H locs q_3 hW => ?_)
      obtain ⟨hL_3, ho_3⟩ := q_3
      obtain ⟨_, _, _, _, _, _, o10_3, -⟩ := id hL_3
      have hk_3 := hk
      have o0_3 := (ho_3 0 (by omega)).trans m0
      have o1_3 := (ho_3 1 (by omega)).trans o1
      have o3_3 := (ho_3 3 (by omega)).trans o3
      have o17_3 := (ho_3 17 (by omega)).trans o17
      have o117_3 := (ho_3 117 (by omega)).trans o117
      have o121_3 := (ho_3 121 (by omega)).trans o121
      have hLx3_3 := laneR_off hL ho_3 (by omega)
      refine lv_iconst (v := nI 1) hx hb dX4_falls_38 (by decide) ?_
      refine lv_istore_n (lv' := [(2, .int (nI 1)), (0, .ref (xa cx 0)), (1, .int (nI j))]) hx hb dX4_falls_39 rfl hl (by decide) rfl (fun ls hl => ?_)
      have LOOP : ∀ (d i : Nat)  (μ1 : ME) (H : Heap) (locs : List Loc) (ls : Array Slot), i + d = 31 → (laneR cx μ1 10 (hrs (i - 1) (AL S))) → (off 10 7 μ μ1) → (fallsF (AL S) j 30 1 = fallsF (AL S) j d i) → (1 ≤ i) → St cx s μ1 H locs → lv_has ls 3 [(0, .ref (xa cx 0)), (1, .int (nI j)), (2, .int (nI i))] → W p l e { frames := 3, cells := 0, slots := 0, locals := 115 } s m [.ref (xa cx 0), .int (nI j)].toArray below meth c H locs 0 0 (MQ below (Ei cx (r_falls S (nI j)) (fun μ1 => mainR cx μ1 S ∧ off 0 136 μ μ1)) [.ref (xa cx 0), .int (nI j)].toArray s 0 0 (xA cx)) (F0 m 40 ls []) := by
        intro d
        induction d with
        | zero =>
          intro i  μ1 H locs ls hid hLi ho1 hf hi1 hW hl
          have p0 := (ho1 0 (by omega)).trans m0
          have p3 := (ho1 3 (by omega)).trans o3
          obtain ⟨_, _, _, _, _, _, p10, -⟩ := id hLi
          have hki := lok_hrs hk (i - 1)
          have hLx := laneR_off hL ho1 (by omega)
          refine lv_iload_n hx hb dX4_falls_40 rfl (lv_at hl 2 rfl) ?_
          refine lv_bipush (v := nI 30) hx hb dX4_falls_41 (by decide) ?_
          refine nv_cgt (tgt := 73) F (by omega) (by omega) dX4_falls_43 (by decide) (fun c_4 => ?_) (fun c_4 => ?_)
          · skip
            refine lv_bipush (v := (-9)) hx hb dX4_falls_73 (by decide) ?_
            have hoz : off 10 7 μ μ1 := (fun z hz => by rw [ho1 z (by omega)])
            exact rt_ie F hr hlk hW (by unfold r_falls; rw [inR_j hj (by omega), if_pos rfl, nI_clamp (by omega), if_pos hst, hf]; first | rfl | (show _ = (if lst (hrs i (AL S)) j = true then _ else _); rw [if_neg (by rw [‹lst (hrs i (AL S)) j = false›]; decide)])) ⟨mainR_trial hM hoz ⟨_, hLi⟩, off_big hoz (by omega)⟩ dX4_falls_75
          · skip
            exact absurd c_4 (by omega)
        | succ d ih =>
          intro i  μ1 H locs ls hid hLi ho1 hf hi1 hW hl
          have p0 := (ho1 0 (by omega)).trans m0
          have p3 := (ho1 3 (by omega)).trans o3
          obtain ⟨_, _, _, _, _, _, p10, -⟩ := id hLi
          have hki := lok_hrs hk (i - 1)
          have hLx := laneR_off hL ho1 (by omega)
          refine lv_iload_n hx hb dX4_falls_40 rfl (lv_at hl 2 rfl) ?_
          refine lv_bipush (v := nI 30) hx hb dX4_falls_41 (by decide) ?_
          refine nv_cgt (tgt := 73) F (by omega) (by omega) dX4_falls_43 (by decide) (fun c_5 => ?_) (fun c_5 => ?_)
          · skip
            exact absurd c_5 (by omega)
          · skip
            refine lv_aload_n hx hb dX4_falls_46 rfl (lv_at hl 0 rfl) ?_
            refine nv_get F hW (by omega) p0 rfl iX4 2 (by decide) tw_150 rfl dX4_falls_47 ?_
            refine cl_ie (cl_run (rest := []) F hW e_X4_103 (c_passHour hI l h10b hLi hki (by omega)) ⟨Nat.le_of_ble_eq_true rfl, Nat.le_of_ble_eq_true rfl⟩ (by omega) p10 rfl rfl rfl hl (Nat.le_of_ble_eq_true rfl) dX4_falls_50 ⟨Nat.zero_le _, Nat.zero_le _⟩) hW (fun μ6 H locs q_6 hW => ?_)
            obtain ⟨hL_6, ho_6⟩ := q_6
            obtain ⟨_, _, _, _, _, _, o10_6, -⟩ := id hL_6
            have hk_6 := lok_hour hki
            have o0_6 := (ho_6 0 (by omega)).trans p0
            have o3_6 := (ho_6 3 (by omega)).trans p3
            have hLx3_6 := laneR_off hLx ho_6 (by omega)
            have ehr : hrs i (AL S) = hour (hrs (i - 1) (AL S)) := by cases i with | zero => omega | succ i => rfl
            have hL_6 : laneR cx μ6 10 (hrs i (AL S)) := by rw [ehr]; exact hL_6
            have hk_6 : lok (hrs i (AL S)) (B + 600 * (i - 1) + 600) := by rw [ehr]; exact hk_6
            refine lv_pop hx hb dX4_falls_53 rfl ?_
            refine lv_aload_n hx hb dX4_falls_54 rfl (lv_at hl 0 rfl) ?_
            refine nv_get F hW (by omega) o0_6 rfl iX4 2 (by decide) tw_150 rfl dX4_falls_55 ?_
            refine lv_iload_n hx hb dX4_falls_58 rfl (lv_at hl 1 rfl) ?_
            refine cl_ip (cl_run (rest := []) F hW e_X4_87 (c_standsN hI l h10b hL_6 hk_6 j (by omega)) ⟨Nat.le_of_ble_eq_true rfl, Nat.le_of_ble_eq_true rfl⟩ (by omega) o10_6 rfl rfl rfl hl (Nat.le_of_ble_eq_true rfl) dX4_falls_59 ⟨Nat.zero_le _, Nat.zero_le _⟩) hW (fun H locs hW => ?_)
            refine nv_bne (tgt := 67) F dX4_falls_62 (by decide) (fun c_7 => ?_) (fun c_7 => ?_)
            · skip
              refine lv_iinc (v := ((nI (i + 1)))) (lv' := [(2, .int (nI (i + 1))), (0, .ref (xa cx 0)), (1, .int (nI j))]) hx hb dX4_falls_67 hl (k := 2) rfl (nI_add _ _) (by decide) rfl (fun ls hl => ?_)
              refine lv_goto (tgt := 40) hx hb dX4_falls_70 (by decide) ?_
              exact ih (i + 1) μ6 _ _ _ (by omega) hL_6 (off_tr ho1 ho_6) (by rw [hf]; show (if lst (hrs i (AL S)) j = true then _ else _) = _; rw [if_pos (by assumption)]) (by omega) hW (lv_sub hl [1, 2, 0] rfl)
            · skip
              refine lv_iload_n hx hb dX4_falls_65 rfl (lv_at hl 2 rfl) ?_
              have hoz : off 10 7 μ μ6 := (fun z hz => by rw [ho_6 z (by omega)]; rw [ho1 z (by omega)])
              exact rt_ie F hr hlk hW (by unfold r_falls; rw [inR_j hj (by omega), if_pos rfl, nI_clamp (by omega), if_pos hst, hf]; first | rfl | (show _ = (if lst (hrs i (AL S)) j = true then _ else _); rw [if_neg (by rw [‹lst (hrs i (AL S)) j = false›]; decide)])) ⟨mainR_trial hM hoz ⟨_, hL_6⟩, off_big hoz (by omega)⟩ dX4_falls_66
      exact LOOP 30 1 μ3 _ _ _ (by omega) hL_3 ho_3 rfl (by omega) hW (lv_sub hl [1, 2, 0] rfl)
    · skip
      refine lv_bipush (v := (-3)) hx hb dX4_falls_24 (by decide) ?_
      exact rt_ie F hr hlk hW (by unfold r_falls; rw [inR_j hj (by omega), if_pos rfl, nI_clamp (by omega), ‹lst (AL S) j = false›]; rfl) ⟨hM, off_rf⟩ dX4_falls_26
  · skip
    refine lv_iconst (v := (-1)) hx hb dX4_falls_11 (by decide) ?_
    exact rt_ie F hr hlk hW (by unfold r_falls; rw [‹inR h (Ln (AL S)) = false›]; rfl) ⟨hM, off_rf⟩ dX4_falls_12

def r_see (S : AS) (h o t : Int32) : Int32 := if carI h && inR o 6 && halI t then (if Ay S < 6 then nI (Ay S + 1) else -4) else -2
def s_see (S : AS) (h o t : Int32) : AS := if carI h && inR o 6 && halI t && decide (Ay S < 6) then uS S (va_up (Ah S) (Ay S) h.toNatClampNeg) (va_up (Ao S) (Ay S) o.toNatClampNeg) (va_up (Ab S) (Ay S) t.toNatClampNeg) (Ay S + 1) else S
theorem sok_up {h o b : Nat → Nat} {y a c e : Nat} (hs : sok h o b y) (hy : y < 6) (ha : a ≤ 9) (hc : c ≤ 5) (he : e ≤ 1) : sok (va_up h y a) (va_up o y c) (va_up b y e) (y + 1) := by
  refine ⟨by omega, fun i hi => ?_⟩
  unfold va_up
  by_cases q : i = y
  · rw [if_pos q, if_pos q, if_pos q]
    exact ⟨ha, hc, he⟩
  · rw [if_neg q, if_neg q, if_neg q]
    exact hs.2 i (by omega)

set_option maxHeartbeats 4000000 in
set_option maxRecDepth 100000 in
theorem k_see {cx : CX} (hI : xI cx) (l : Launch) {μ : ME} {S : AS} {B : Nat} (hN : 136 ≤ xN cx) (hM : mainR cx μ S) (hA : aok S B) (hB : B < 800000) (h o t : Int32) : MT cx l yX4_see cX4_see 4 (some .int) 1 23 [.ref (xa cx 0), .int h, .int o, .int t] μ (Ei cx (r_see S h o t) (fun μ1 => mainR cx μ1 (s_see S h o t) ∧ off 0 136 μ μ1)) := by
  refine mt_of hI (by decide) (Nat.le_of_ble_eq_true rfl) ?_
  intro p e s m below meth c ls F hr hlk hW hl
  have hx := F.1.1
  have hb := F.1.2.1
  have hts := F.1.2.2.2.2
  obtain ⟨m0, hT, hL, ⟨LT, hLT⟩, hPa, hSe, hSl⟩ := id hM
  have hk := hA.2.1
  have hn6 := hk.1
  have h3b : 3 + 7 ≤ xN cx := by omega
  have h10b : 10 + 7 ≤ xN cx := by omega
  obtain ⟨_, _, _, _, _, _, o3, -⟩ := id hL
  obtain ⟨_, _, _, _, _, _, o10, -⟩ := id hLT
  obtain ⟨_, o1, -⟩ := id hT
  obtain ⟨_, _, o17, -⟩ := id hPa
  obtain ⟨_, _, _, o117, -⟩ := id hSe
  obtain ⟨⟨gs, o121, hgs⟩, hsl2, hsl3⟩ := id hSl
  have hl : lv_has ls 4 [(0, .ref (xa cx 0)), (1, .int h), (2, .int o), (3, .int t)] := hl
  refine lv_iload_n hx hb dX4_see_0 rfl (lv_at hl 1 rfl) ?_
  refine lv_iconst (v := nI 1) hx hb dX4_see_1 (by decide) ?_
  refine lv_icmp_lt (tgt := 28) hx hb dX4_see_2 (by decide) (fun c_1 => ?_) (fun c_1 => ?_)
  · skip
    refine lv_bipush (v := (-2)) hx hb dX4_see_28 (by decide) ?_
    have hbad : (carI h && inR o 6 && halI t) = false := by first | (rw [car_lo (by assumption)]; rfl) | (rw [car_hi (by assumption)]; rfl) | (rw [inR_neg (by assumption)]; simp) | (rw [inR_ge (by omega) (by assumption)]; simp) | (rw [‹halI t = false›, Bool.and_false])
    exact rt_ie F hr hlk hW (by unfold r_see; rw [hbad]; rfl) ⟨by unfold s_see; rw [hbad]; exact hM, off_rf⟩ dX4_see_30
  · skip
    refine lv_iload_n hx hb dX4_see_5 rfl (lv_at hl 1 rfl) ?_
    refine lv_bipush (v := nI 9) hx hb dX4_see_6 (by decide) ?_
    refine lv_icmp_gt (tgt := 28) hx hb dX4_see_8 (by decide) (fun c_2 => ?_) (fun c_2 => ?_)
    · skip
      refine lv_bipush (v := (-2)) hx hb dX4_see_28 (by decide) ?_
      have hbad : (carI h && inR o 6 && halI t) = false := by first | (rw [car_lo (by assumption)]; rfl) | (rw [car_hi (by assumption)]; rfl) | (rw [inR_neg (by assumption)]; simp) | (rw [inR_ge (by omega) (by assumption)]; simp) | (rw [‹halI t = false›, Bool.and_false])
      exact rt_ie F hr hlk hW (by unfold r_see; rw [hbad]; rfl) ⟨by unfold s_see; rw [hbad]; exact hM, off_rf⟩ dX4_see_30
    · skip
      refine lv_iload_n hx hb dX4_see_11 rfl (lv_at hl 2 rfl) ?_
      refine lv_if_lt (tgt := 28) hx hb dX4_see_12 (by decide) (fun c_3 => ?_) (fun c_3 => ?_)
      · skip
        refine lv_bipush (v := (-2)) hx hb dX4_see_28 (by decide) ?_
        have hbad : (carI h && inR o 6 && halI t) = false := by first | (rw [car_lo (by assumption)]; rfl) | (rw [car_hi (by assumption)]; rfl) | (rw [inR_neg (by assumption)]; simp) | (rw [inR_ge (by omega) (by assumption)]; simp) | (rw [‹halI t = false›, Bool.and_false])
        exact rt_ie F hr hlk hW (by unfold r_see; rw [hbad]; rfl) ⟨by unfold s_see; rw [hbad]; exact hM, off_rf⟩ dX4_see_30
      · skip
        refine lv_iload_n hx hb dX4_see_15 rfl (lv_at hl 2 rfl) ?_
        refine lv_bipush (v := nI 6) hx hb dX4_see_16 (by decide) ?_
        refine lv_icmp_ge (tgt := 28) hx hb dX4_see_18 (by decide) (fun c_4 => ?_) (fun c_4 => ?_)
        · skip
          refine lv_bipush (v := (-2)) hx hb dX4_see_28 (by decide) ?_
          have hbad : (carI h && inR o 6 && halI t) = false := by first | (rw [car_lo (by assumption)]; rfl) | (rw [car_hi (by assumption)]; rfl) | (rw [inR_neg (by assumption)]; simp) | (rw [inR_ge (by omega) (by assumption)]; simp) | (rw [‹halI t = false›, Bool.and_false])
          exact rt_ie F hr hlk hW (by unfold r_see; rw [hbad]; rfl) ⟨by unfold s_see; rw [hbad]; exact hM, off_rf⟩ dX4_see_30
        · skip
          refine lv_iload_n hx hb dX4_see_21 rfl (lv_at hl 3 rfl) ?_
          refine cl_ip (cl_runS (rest := []) F hW e_X4_135 (c_isHalf hI l t) ⟨Nat.le_of_ble_eq_true rfl, Nat.le_of_ble_eq_true rfl⟩ rfl rfl hl (Nat.le_of_ble_eq_true rfl) dX4_see_22 ⟨Nat.zero_le _, Nat.zero_le _⟩) hW (fun H locs hW => ?_)
          refine nv_bne (tgt := 31) F dX4_see_25 (by decide) (fun c_5 => ?_) (fun c_5 => ?_)
          · skip
            obtain ⟨a, ha1, ha9, rfl⟩ := carI_of (car_in c_1 c_2)
            obtain ⟨e6, he6, rfl⟩ := inR_of (inR_in (n := 6) (by omega) c_3 c_4) (by omega)
            obtain ⟨t1, ht1, rfl⟩ : ∃ z, z ≤ 1 ∧ t = nI z := by
                rcases halI_of c_5 with q | q
                · exact ⟨0, by omega, q⟩
                · exact ⟨1, by omega, q⟩
            have hct : carI (nI a) = true := by rw [carI_nI (by omega)]; exact decide_eq_true ⟨ha1, ha9⟩
            have hca : halI (nI t1) = true := c_5
            refine lv_aload_n hx hb dX4_see_31 rfl (lv_at hl 0 rfl) ?_
            refine nv_get F hW (by omega) m0 rfl iX4 4 (by decide) tw_152 rfl dX4_see_32 ?_
            refine lv_iload_n hx hb dX4_see_35 rfl (lv_at hl 1 rfl) ?_
            refine lv_iload_n hx hb dX4_see_36 rfl (lv_at hl 2 rfl) ?_
            refine lv_iload_n hx hb dX4_see_37 rfl (lv_at hl 3 rfl) ?_
            refine cl_ie (cl_run (rest := []) F hW e_X4_206 (c_sadd hI l (by omega) hSe hA.2.2.2.1 a e6 t1) ⟨Nat.le_of_ble_eq_true rfl, Nat.le_of_ble_eq_true rfl⟩ (by omega) o117 rfl rfl rfl hl (Nat.le_of_ble_eq_true rfl) dX4_see_38 ⟨Nat.zero_le _, Nat.zero_le _⟩) hW (fun μ6 H locs q_6 hW => ?_)
            obtain ⟨hS_6, ho_6⟩ := q_6
            have o0_6 := (ho_6 0 (by omega)).trans m0
            have o1_6 := (ho_6 1 (by omega)).trans o1
            have o3_6 := (ho_6 3 (by omega)).trans o3
            have o10_6 := (ho_6 10 (by omega)).trans o10
            have o17_6 := (ho_6 17 (by omega)).trans o17
            have o121_6 := (ho_6 121 (by omega)).trans o121
            have hLx3_6 := laneR_off hL ho_6 (by omega)
            have hLx10_6 := laneR_off hLT ho_6 (by omega)
            obtain ⟨_, _, _, o117_6, -⟩ := id hS_6
            refine nv_beq (tgt := 54) F dX4_see_41 (by decide) (fun c_7 => ?_) (fun c_7 => ?_)
            · skip
              have hge := of_decide_eq_false c_7
              refine lv_bipush (v := (-4)) hx hb dX4_see_54 (by decide) ?_
              rw [if_neg hge, if_neg hge, if_neg hge, if_neg hge] at hS_6
              exact rt_ie F hr hlk hW (by unfold r_see; rw [hct, inR_j he6 (by omega), hca]; show _ = (if Ay S < 6 then _ else _); rw [if_neg hge]) ⟨by unfold s_see; rw [hct, inR_j he6 (by omega), hca, decide_eq_false hge]; exact ⟨o0_6, (textR_off hT ho_6 (by omega)), hLx3_6, ⟨_, hLx10_6⟩, (pastR_off hPa ho_6 (by omega)), hS_6, (slotR_off hSl ho_6 (by omega))⟩, (fun z hz => by rw [ho_6 z (by omega)])⟩ dX4_see_56
            · skip
              have hlt := of_decide_eq_true c_7
              refine lv_aload_n hx hb dX4_see_44 rfl (lv_at hl 0 rfl) ?_
              refine nv_get F hW (by omega) o0_6 rfl iX4 4 (by decide) tw_152 rfl dX4_see_45 ?_
              rw [if_pos hlt, if_pos hlt, if_pos hlt, if_pos hlt] at hS_6
              refine cl_ip (cl_run (rest := []) F hW e_X4_210 (c_ssize hI l (by omega) hS_6 (sok_up hA.2.2.2.1 hlt (by omega) (by omega) (by omega))) ⟨Nat.le_of_ble_eq_true rfl, Nat.le_of_ble_eq_true rfl⟩ (by omega) o117_6 rfl rfl rfl hl (Nat.le_of_ble_eq_true rfl) dX4_see_48 ⟨Nat.zero_le _, Nat.zero_le _⟩) hW (fun H locs hW => ?_)
              refine lv_goto (tgt := 56) hx hb dX4_see_51 (by decide) ?_
              exact rt_ie F hr hlk hW (by unfold r_see; rw [hct, inR_j he6 (by omega), hca]; show _ = (if Ay S < 6 then _ else _); rw [if_pos hlt]) ⟨by unfold s_see; rw [hct, inR_j he6 (by omega), hca, decide_eq_true hlt]; rw [nI_clamp (by omega), nI_clamp (by omega), nI_clamp (by omega)]; exact ⟨o0_6, (textR_off hT ho_6 (by omega)), hLx3_6, ⟨_, hLx10_6⟩, (pastR_off hPa ho_6 (by omega)), hS_6, (slotR_off hSl ho_6 (by omega))⟩, (fun z hz => by rw [ho_6 z (by omega)])⟩ dX4_see_56
          · skip
            refine lv_bipush (v := (-2)) hx hb dX4_see_28 (by decide) ?_
            have hbad : (carI h && inR o 6 && halI t) = false := by first | (rw [car_lo (by assumption)]; rfl) | (rw [car_hi (by assumption)]; rfl) | (rw [inR_neg (by assumption)]; simp) | (rw [inR_ge (by omega) (by assumption)]; simp) | (rw [‹halI t = false›, Bool.and_false])
            exact rt_ie F hr hlk hW (by unfold r_see; rw [hbad]; rfl) ⟨by unfold s_see; rw [hbad]; exact hM, off_rf⟩ dX4_see_30

set_option maxHeartbeats 4000000 in
set_option maxRecDepth 100000 in
theorem k_unsee {cx : CX} (hI : xI cx) (l : Launch) {μ : ME} {S : AS} {B : Nat} (hN : 136 ≤ xN cx) (hM : mainR cx μ S) (hA : aok S B) (hB : B < 800000) : MT cx l yX4_unsee cX4_unsee 1 (some .int) 1 21 [.ref (xa cx 0)] μ (Ei cx (nI (Ay S)) (fun μ1 => mainR cx μ1 (uS S (Ah S) (Ao S) (Ab S) 0) ∧ off 0 136 μ μ1)) := by
  refine mt_of hI (by decide) (Nat.le_of_ble_eq_true rfl) ?_
  intro p e s m below meth c ls F hr hlk hW hl
  have hx := F.1.1
  have hb := F.1.2.1
  have hts := F.1.2.2.2.2
  obtain ⟨m0, hT, hL, ⟨LT, hLT⟩, hPa, hSe, hSl⟩ := id hM
  have hk := hA.2.1
  have hn6 := hk.1
  have h3b : 3 + 7 ≤ xN cx := by omega
  have h10b : 10 + 7 ≤ xN cx := by omega
  obtain ⟨_, _, _, _, _, _, o3, -⟩ := id hL
  obtain ⟨_, _, _, _, _, _, o10, -⟩ := id hLT
  obtain ⟨_, o1, -⟩ := id hT
  obtain ⟨_, _, o17, -⟩ := id hPa
  obtain ⟨_, _, _, o117, -⟩ := id hSe
  obtain ⟨⟨gs, o121, hgs⟩, hsl2, hsl3⟩ := id hSl
  have hl : lv_has ls 1 [(0, .ref (xa cx 0))] := hl
  refine lv_aload_n hx hb dX4_unsee_0 rfl (lv_at hl 0 rfl) ?_
  refine nv_get F hW (by omega) m0 rfl iX4 4 (by decide) tw_152 rfl dX4_unsee_1 ?_
  refine cl_ie (cl_run (rest := []) F hW e_X4_211 (c_sclear hI l (by omega) hSe hA.2.2.2.1) ⟨Nat.le_of_ble_eq_true rfl, Nat.le_of_ble_eq_true rfl⟩ (by omega) o117 rfl rfl rfl hl (Nat.le_of_ble_eq_true rfl) dX4_unsee_4 ⟨Nat.zero_le _, Nat.zero_le _⟩) hW (fun μ1 H locs q_1 hW => ?_)
  obtain ⟨hS_1, ho_1⟩ := q_1
  have o0_1 := (ho_1 0 (by omega)).trans m0
  have o1_1 := (ho_1 1 (by omega)).trans o1
  have o3_1 := (ho_1 3 (by omega)).trans o3
  have o10_1 := (ho_1 10 (by omega)).trans o10
  have o17_1 := (ho_1 17 (by omega)).trans o17
  have o121_1 := (ho_1 121 (by omega)).trans o121
  have hLx3_1 := laneR_off hL ho_1 (by omega)
  have hLx10_1 := laneR_off hLT ho_1 (by omega)
  obtain ⟨_, _, _, o117_1, -⟩ := id hS_1
  exact rt_ie F hr hlk hW rfl ⟨⟨o0_1, (textR_off hT ho_1 (by omega)), hLx3_1, ⟨_, hLx10_1⟩, (pastR_off hPa ho_1 (by omega)), hS_1, (slotR_off hSl ho_1 (by omega))⟩, (fun z hz => by rw [ho_1 z (by omega)])⟩ dX4_unsee_7

set_option maxHeartbeats 4000000 in
set_option maxRecDepth 100000 in
theorem k_seed {cx : CX} (hI : xI cx) (l : Launch) {μ : ME} {S : AS} {B : Nat} (hN : 136 ≤ xN cx) (hM : mainR cx μ S) (hA : aok S B) (hB : B < 800000) (v : Int64) : MT cx l yX4_seed cX4_seed 5 (some .long) 0 0 [.ref (xa cx 0), .long (v)] μ (El cx (Ad S) (fun μ1 => mainR cx μ1 (uD S v) ∧ off 0 136 μ μ1)) := by
  refine mt_of hI (by decide) (Nat.le_of_ble_eq_true rfl) ?_
  intro p e s m below meth c ls F hr hlk hW hl
  have hx := F.1.1
  have hb := F.1.2.1
  have hts := F.1.2.2.2.2
  obtain ⟨m0, hT, hL, ⟨LT, hLT⟩, hPa, hSe, hSl⟩ := id hM
  have hk := hA.2.1
  have hn6 := hk.1
  have h3b : 3 + 7 ≤ xN cx := by omega
  have h10b : 10 + 7 ≤ xN cx := by omega
  obtain ⟨_, _, _, _, _, _, o3, -⟩ := id hL
  obtain ⟨_, _, _, _, _, _, o10, -⟩ := id hLT
  obtain ⟨_, o1, -⟩ := id hT
  obtain ⟨_, _, o17, -⟩ := id hPa
  obtain ⟨_, _, _, o117, -⟩ := id hSe
  obtain ⟨⟨gs, o121, hgs⟩, hsl2, hsl3⟩ := id hSl
  have hl : lv_has ls 5 [(0, .ref (xa cx 0)), (1, .long (v))] := hl
  refine lv_aload_n hx hb dX4_seed_0 rfl (lv_at hl 0 rfl) ?_
  refine nv_get F hW (by omega) m0 rfl iX4 7 (by decide) tw_155 rfl dX4_seed_1 ?_
  refine lv_lstore_n (lv' := [(3, .long (Ad S)), (0, .ref (xa cx 0)), (1, .long (v))]) hx hb dX4_seed_4 rfl hl (by decide) rfl (fun ls hl => ?_)
  refine lv_aload_n hx hb dX4_seed_5 rfl (lv_at hl 1 rfl) ?_
  refine lv_lload_n hx hb dX4_seed_6 rfl (lv_at hl 2 rfl) ?_
  refine nv_put F hW (by omega) m0 rfl iX4 tyX4 tyX4_ok nmX4 7 (by decide) tw_155 rfl rfl rfl (Nat.le_of_ble_eq_true rfl) dX4_seed_7 (fun H locs hW => ?_)
  obtain ⟨μ1, eμ1⟩ : ∃ zz9 : ME, zz9 = va_up μ 0 (.inr (4, [.ref (xa cx 1), .ref (xa cx 3), .ref (xa cx 10), .ref (xa cx 17), .ref (xa cx 117), .ref (xa cx 121), .int (nI (Ak S)), .long (v)])) := ⟨_, rfl⟩
  have hW : St cx s μ1 H locs := by rw [eμ1]; exact hW
  have h0_1 : μ1 0 = .inr (4, [.ref (xa cx 1), .ref (xa cx 3), .ref (xa cx 10), .ref (xa cx 17), .ref (xa cx 117), .ref (xa cx 121), .int (nI (Ak S)), .long (v)]) := by rw [eμ1, va_up_self]
  have h1_1 := (congrFun eμ1 1).trans ((va_up_ne _ _ (by omega)).trans o1)
  have h3_1 := (congrFun eμ1 3).trans ((va_up_ne _ _ (by omega)).trans o3)
  have h10_1 := (congrFun eμ1 10).trans ((va_up_ne _ _ (by omega)).trans o10)
  have h17_1 := (congrFun eμ1 17).trans ((va_up_ne _ _ (by omega)).trans o17)
  have h117_1 := (congrFun eμ1 117).trans ((va_up_ne _ _ (by omega)).trans o117)
  have h121_1 := (congrFun eμ1 121).trans ((va_up_ne _ _ (by omega)).trans o121)
  have hou1 : off 0 1 μ μ1 := fun z hz => by rw [eμ1, va_up_ne _ _ (by omega)]
  have hLu3_1 := laneR_off hL hou1 (by omega)
  have hLu10_1 := laneR_off hLT hou1 (by omega)
  refine lv_lload_n hx hb dX4_seed_10 rfl (lv_at hl 0 rfl) ?_
  exact rt_le F hr hlk hW rfl ⟨⟨h0_1, (textR_off hT hou1 (by omega)), hLu3_1, ⟨_, hLu10_1⟩, (pastR_off hPa hou1 (by omega)), (seenR_off hSe hou1 (by omega)), (slotR_off hSl hou1 (by omega))⟩, (fun z hz => by rw [hou1 z (by omega)])⟩ dX4_seed_11
