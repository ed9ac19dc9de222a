/-! night -/
def exF (S : AS) (L : LN) : Nat → Nat → Bool
  | 0, _ => true
  | d + 1, i => agB (Ah S) (Ao S) (Ab S) i (hrs i L) (Ay S) && exF S L d (i + 1)
def nB (S : AS) (h v : Nat) : Bool := canA (AL S) h v && exF S (addS (AL S) h v) 9 1
def ntP (S : AS) (h v : Nat) (a : Nat × Int32) : Nat × Int32 := if nB S h v then (a.1 + 1, if a.2 = -9 then nI (10 * h + v) else a.2) else a
def ntI (S : AS) (h : Nat) : Nat → Nat → Nat × Int32 → Nat × Int32
  | 0, _, a => a
  | d + 1, v, a => ntI S h d (v + 1) (ntP S h v a)
def ntO (S : AS) : Nat → Nat → Nat × Int32 → Nat × Int32
  | 0, _, a => a
  | d + 1, h, a => ntO S d (h + 1) (ntI S h 9 1 a)
def r_night (S : AS) (w : Int32) : Int32 := if halI w then (if w = nI 0 then nI (ntO S (Ln (AL S)) 0 (0, -9)).1 else (ntO S (Ln (AL S)) 0 (0, -9)).2) else -2

set_option maxHeartbeats 4000000 in
set_option maxRecDepth 100000 in
theorem c_explainsSeen {cx : CX} (hI : xI cx) (l : Launch) {μ : ME} {S : AS} {B : Nat} (hN : 136 ≤ xN cx) (hM : mainR cx μ S) (hA : aok S B) (hB : B < 800000) (j v : Nat) (hj : j < 100) (hv : v < 100) : MT cx l yX4_explainsSeen cX4_explainsSeen 4 (some .boolean) 3 115 [.ref (xa cx 0), .int (nI j), .int (nI v)] μ (Ei cx (b2 (nB S j v)) (fun μ1 => (∃ L1, laneR cx μ1 10 L1) ∧ off 10 7 μ μ1)) := by
  refine mt_of hI (by decide) (Nat.le_of_ble_eq_true rfl) ?_
  intro p e s m below meth c ls F hr hlk hW hl
  have hx := F.1.1
  have hb := F.1.2.1
  have hts := F.1.2.2.2.2
  obtain ⟨m0, hT, hL, ⟨LT, hLT⟩, hPa, hSe, hSl⟩ := id hM
  have hk := hA.2.1
  have hn6 := hk.1
  have h3b : 3 + 7 ≤ xN cx := by omega
  have h10b : 10 + 7 ≤ xN cx := by omega
  obtain ⟨_, _, _, _, _, _, o3, -⟩ := id hL
  obtain ⟨_, _, _, _, _, _, o10, -⟩ := id hLT
  obtain ⟨_, o1, -⟩ := id hT
  obtain ⟨_, _, o17, -⟩ := id hPa
  obtain ⟨_, _, _, o117, -⟩ := id hSe
  obtain ⟨⟨gs, o121, hgs⟩, hsl2, hsl3⟩ := id hSl
  have hl : lv_has ls 4 [(0, .ref (xa cx 0)), (1, .int (nI j)), (2, .int (nI v))] := hl
  refine lv_aload_n hx hb dX4_explainsSeen_0 rfl (lv_at hl 0 rfl) ?_
  refine nv_get F hW (by omega) m0 rfl iX4 2 (by decide) tw_150 rfl dX4_explainsSeen_1 ?_
  refine lv_aload_n hx hb dX4_explainsSeen_4 rfl (lv_at hl 0 rfl) ?_
  refine nv_get F hW (by omega) m0 rfl iX4 1 (by decide) tw_149 rfl dX4_explainsSeen_5 ?_
  refine cl_v (cl_run (rest := []) F hW e_X4_138 (c_copyFrom hI l h10b h3b (by omega) hLT hL (hk).1) ⟨Nat.le_of_ble_eq_true rfl, Nat.le_of_ble_eq_true rfl⟩ (by omega) o10 rfl rfl rfl hl (Nat.le_of_ble_eq_true rfl) dX4_explainsSeen_8 ⟨Nat.zero_le _, Nat.zero_le _⟩) hW (fun μ1 H locs q_1 hW => ?_)
  obtain ⟨hL_1, ho_1⟩ := q_1
  obtain ⟨_, _, _, _, _, _, o10_1, -⟩ := id hL_1
  have hk_1 := hk
  have o0_1 := (ho_1 0 (by omega)).trans m0
  have o1_1 := (ho_1 1 (by omega)).trans o1
  have o3_1 := (ho_1 3 (by omega)).trans o3
  have o17_1 := (ho_1 17 (by omega)).trans o17
  have o117_1 := (ho_1 117 (by omega)).trans o117
  have o121_1 := (ho_1 121 (by omega)).trans o121
  have hLx3_1 := laneR_off hL ho_1 (by omega)
  refine lv_aload_n hx hb dX4_explainsSeen_11 rfl (lv_at hl 0 rfl) ?_
  refine nv_get F hW (by omega) o0_1 rfl iX4 2 (by decide) tw_150 rfl dX4_explainsSeen_12 ?_
  refine lv_iload_n hx hb dX4_explainsSeen_15 rfl (lv_at hl 1 rfl) ?_
  refine lv_iload_n hx hb dX4_explainsSeen_16 rfl (lv_at hl 2 rfl) ?_
  refine cl_ie (cl_run (rest := []) F hW e_X4_113 (c_addStones hI l h10b hL_1 hk_1 j v (by omega) (by omega)) ⟨Nat.le_of_ble_eq_true rfl, Nat.le_of_ble_eq_true rfl⟩ (by omega) o10_1 rfl rfl rfl hl (Nat.le_of_ble_eq_true rfl) dX4_explainsSeen_17 ⟨Nat.zero_le _, Nat.zero_le _⟩) hW (fun μ2 H locs q_2 hW => ?_)
  obtain ⟨hL_2, ho_2⟩ := q_2
  obtain ⟨_, _, _, _, _, _, o10_2, -⟩ := id hL_2
  have hk_2 := lok_addS hk_1 j v
  have o0_2 := (ho_2 0 (by omega)).trans o0_1
  have o1_2 := (ho_2 1 (by omega)).trans o1_1
  have o3_2 := (ho_2 3 (by omega)).trans o3_1
  have o17_2 := (ho_2 17 (by omega)).trans o17_1
  have o117_2 := (ho_2 117 (by omega)).trans o117_1
  have o121_2 := (ho_2 121 (by omega)).trans o121_1
  have hLx3_2 := laneR_off hLx3_1 ho_2 (by omega)
  refine nv_bne (tgt := 25) F dX4_explainsSeen_20 (by decide) (fun c_3 => ?_) (fun c_3 => ?_)
  · skip
    have hcn : canA (AL S) j v = true := c_3
    refine lv_iconst (v := nI 1) hx hb dX4_explainsSeen_25 (by decide) ?_
    refine lv_istore_n (lv' := [(3, .int (nI 1)), (0, .ref (xa cx 0)), (1, .int (nI j)), (2, .int (nI v))]) hx hb dX4_explainsSeen_26 rfl hl (by decide) rfl (fun ls hl => ?_)
    have LOOP : ∀ (d i : Nat)  (μ1 : ME) (H : Heap) (locs : List Loc) (ls : Array Slot), i + d = 10 → (laneR cx μ1 10 (hrs (i - 1) (addS (AL S) j v))) → (off 10 7 μ μ1) → (exF S (addS (AL S) j v) 9 1 = exF S (addS (AL S) j v) d i) → (1 ≤ i) → St cx s μ1 H locs → lv_has ls 4 [(0, .ref (xa cx 0)), (1, .int (nI j)), (2, .int (nI v)), (3, .int (nI i))] → W p l e { frames := 3, cells := 0, slots := 0, locals := 115 } s m [.ref (xa cx 0), .int (nI j), .int (nI v)].toArray below meth c H locs 0 0 (MQ below (Ei cx (b2 (nB S j v)) (fun μ1 => (∃ L1, laneR cx μ1 10 L1) ∧ off 10 7 μ μ1)) [.ref (xa cx 0), .int (nI j), .int (nI v)].toArray s 0 0 (xA cx)) (F0 m 27 ls []) := by
      intro d
      induction d with
      | zero =>
        intro i  μ1 H locs ls hid hLi ho1 hf hi1 hW hl
        have p0 := (ho1 0 (by omega)).trans m0
        have p3 := (ho1 3 (by omega)).trans o3
        have p117 := (ho1 117 (by omega)).trans o117
        obtain ⟨_, _, _, _, _, _, p10, -⟩ := id hLi
        have hki := lok_hrs (lok_addS hk j v) (i - 1)
        have hLx := laneR_off hL ho1 (by omega)
        refine lv_iload_n hx hb dX4_explainsSeen_27 rfl (lv_at hl 3 rfl) ?_
        refine lv_bipush (v := nI 9) hx hb dX4_explainsSeen_28 (by decide) ?_
        refine nv_cgt (tgt := 64) F (by omega) (by omega) dX4_explainsSeen_30 (by decide) (fun c_4 => ?_) (fun c_4 => ?_)
        · skip
          refine lv_iconst (v := nI 1) hx hb dX4_explainsSeen_64 (by decide) ?_
          exact rt_ze F hr hlk hW (by unfold nB; rw [hcn, hf]; rfl) ⟨⟨_, hLi⟩, (fun z hz => by rw [ho1 z (by omega)])⟩ dX4_explainsSeen_65
        · skip
          exact absurd c_4 (by omega)
      | succ d ih =>
        intro i  μ1 H locs ls hid hLi ho1 hf hi1 hW hl
        have p0 := (ho1 0 (by omega)).trans m0
        have p3 := (ho1 3 (by omega)).trans o3
        have p117 := (ho1 117 (by omega)).trans o117
        obtain ⟨_, _, _, _, _, _, p10, -⟩ := id hLi
        have hki := lok_hrs (lok_addS hk j v) (i - 1)
        have hLx := laneR_off hL ho1 (by omega)
        refine lv_iload_n hx hb dX4_explainsSeen_27 rfl (lv_at hl 3 rfl) ?_
        refine lv_bipush (v := nI 9) hx hb dX4_explainsSeen_28 (by decide) ?_
        refine nv_cgt (tgt := 64) F (by omega) (by omega) dX4_explainsSeen_30 (by decide) (fun c_5 => ?_) (fun c_5 => ?_)
        · skip
          exact absurd c_5 (by omega)
        · skip
          refine lv_aload_n hx hb dX4_explainsSeen_33 rfl (lv_at hl 0 rfl) ?_
          refine nv_get F hW (by omega) p0 rfl iX4 2 (by decide) tw_150 rfl dX4_explainsSeen_34 ?_
          refine cl_ie (cl_run (rest := []) F hW e_X4_103 (c_passHour hI l h10b hLi hki (by omega)) ⟨Nat.le_of_ble_eq_true rfl, Nat.le_of_ble_eq_true rfl⟩ (by omega) p10 rfl rfl rfl hl (Nat.le_of_ble_eq_true rfl) dX4_explainsSeen_37 ⟨Nat.zero_le _, Nat.zero_le _⟩) hW (fun μ6 H locs q_6 hW => ?_)
          obtain ⟨hL_6, ho_6⟩ := q_6
          obtain ⟨_, _, _, _, _, _, o10_6, -⟩ := id hL_6
          have hk_6 := lok_hour hki
          have o0_6 := (ho_6 0 (by omega)).trans p0
          have o3_6 := (ho_6 3 (by omega)).trans p3
          have o117_6 := (ho_6 117 (by omega)).trans p117
          have hLx3_6 := laneR_off hLx ho_6 (by omega)
          have ehr : hrs i (addS (AL S) j v) = hour (hrs (i - 1) (addS (AL S) j v)) := by cases i with | zero => omega | succ i => rfl
          have hL_6 : laneR cx μ6 10 (hrs i (addS (AL S) j v)) := by rw [ehr]; exact hL_6
          have hk_6 : lok (hrs i (addS (AL S) j v)) (B + 600 * (i - 1) + 600) := by rw [ehr]; exact hk_6
          refine lv_pop hx hb dX4_explainsSeen_40 rfl ?_
          refine lv_aload_n hx hb dX4_explainsSeen_41 rfl (lv_at hl 0 rfl) ?_
          refine nv_get F hW (by omega) o0_6 rfl iX4 4 (by decide) tw_152 rfl dX4_explainsSeen_42 ?_
          refine lv_iload_n hx hb dX4_explainsSeen_45 rfl (lv_at hl 3 rfl) ?_
          refine lv_aload_n hx hb dX4_explainsSeen_46 rfl (lv_at hl 0 rfl) ?_
          refine nv_get F hW (by omega) o0_6 rfl iX4 2 (by decide) tw_150 rfl dX4_explainsSeen_47 ?_
          refine cl_ip (cl_run (rest := []) F hW e_X4_215 (c_agrees hI l (by omega) (seenR_off (seenR_off hSe ho1 (by omega)) ho_6 (by omega)) hA.2.2.2.1 h10b hL_6 hk_6 i (by omega)) ⟨Nat.le_of_ble_eq_true rfl, Nat.le_of_ble_eq_true rfl⟩ (by omega) o117_6 rfl rfl rfl hl (Nat.le_of_ble_eq_true rfl) dX4_explainsSeen_50 ⟨Nat.zero_le _, Nat.zero_le _⟩) hW (fun H locs hW => ?_)
          refine nv_bne (tgt := 58) F dX4_explainsSeen_53 (by decide) (fun c_7 => ?_) (fun c_7 => ?_)
          · skip
            refine lv_iinc (v := ((nI (i + 1)))) (lv' := [(3, .int (nI (i + 1))), (0, .ref (xa cx 0)), (1, .int (nI j)), (2, .int (nI v))]) hx hb dX4_explainsSeen_58 hl (k := 3) rfl (nI_add _ _) (by decide) rfl (fun ls hl => ?_)
            refine lv_goto (tgt := 27) hx hb dX4_explainsSeen_61 (by decide) ?_
            exact ih (i + 1) μ6 _ _ _ (by omega) hL_6 (fun z hz => by rw [ho_6 z (by omega)]; rw [ho1 z (by omega)]) (by rw [hf]; show (_ && _) = _; rw [‹agB (Ah S) (Ao S) (Ab S) i (hrs i (addS (AL S) j v)) (Ay S) = true›]; rfl) (by omega) hW (lv_sub hl [1, 2, 3, 0] rfl)
          · skip
            refine lv_iconst (v := nI 0) hx hb dX4_explainsSeen_56 (by decide) ?_
            exact rt_ze F hr hlk hW (by unfold nB; rw [hcn, hf]; show _ = b2 (true && (_ && _)); rw [‹agB (Ah S) (Ao S) (Ab S) i (hrs i (addS (AL S) j v)) (Ay S) = false›]; rfl) ⟨⟨_, hL_6⟩, (fun z hz => by rw [ho_6 z (by omega)]; rw [ho1 z (by omega)])⟩ dX4_explainsSeen_57
    exact LOOP 9 1 μ2 _ _ _ (by omega) hL_2 (fun z hz => by rw [ho_2 z (by omega)]; rw [ho_1 z (by omega)]) rfl (by omega) hW (lv_sub hl [1, 2, 3, 0] rfl)
  · skip
    have hcn : canA (AL S) j v = false := c_3
    refine lv_iconst (v := nI 0) hx hb dX4_explainsSeen_23 (by decide) ?_
    exact rt_ze F hr hlk hW (by unfold nB; rw [hcn]; rfl) ⟨⟨_, hL_2⟩, (fun z hz => by rw [ho_2 z (by omega)]; rw [ho_1 z (by omega)])⟩ dX4_explainsSeen_24

set_option maxHeartbeats 4000000 in
set_option maxRecDepth 100000 in
theorem k_night {cx : CX} (hI : xI cx) (l : Launch) {μ : ME} {S : AS} {B : Nat} (hN : 136 ≤ xN cx) (hM : mainR cx μ S) (hA : aok S B) (hB : B < 800000) (w : Int32) : MT cx l yX4_night cX4_night 6 (some .int) 4 138 [.ref (xa cx 0), .int w] μ (Ei cx (r_night S w) (fun μ1 => mainR cx μ1 S ∧ off 0 136 μ μ1)) := by
  refine mt_of hI (by decide) (Nat.le_of_ble_eq_true rfl) ?_
  intro p e s m below meth c ls F hr hlk hW hl
  have hx := F.1.1
  have hb := F.1.2.1
  have hts := F.1.2.2.2.2
  obtain ⟨m0, hT, hL, ⟨LT, hLT⟩, hPa, hSe, hSl⟩ := id hM
  have hk := hA.2.1
  have hn6 := hk.1
  have h3b : 3 + 7 ≤ xN cx := by omega
  have h10b : 10 + 7 ≤ xN cx := by omega
  obtain ⟨_, _, _, _, _, _, o3, -⟩ := id hL
  obtain ⟨_, _, _, _, _, _, o10, -⟩ := id hLT
  obtain ⟨_, o1, -⟩ := id hT
  obtain ⟨_, _, o17, -⟩ := id hPa
  obtain ⟨_, _, _, o117, -⟩ := id hSe
  obtain ⟨⟨gs, o121, hgs⟩, hsl2, hsl3⟩ := id hSl
  have hl : lv_has ls 6 [(0, .ref (xa cx 0)), (1, .int w)] := hl
  refine lv_iload_n hx hb dX4_night_0 rfl (lv_at hl 1 rfl) ?_
  refine cl_ip (cl_runS (rest := []) F hW e_X4_135 (c_isHalf hI l w) ⟨Nat.le_of_ble_eq_true rfl, Nat.le_of_ble_eq_true rfl⟩ rfl rfl hl (Nat.le_of_ble_eq_true rfl) dX4_night_1 ⟨Nat.zero_le _, Nat.zero_le _⟩) hW (fun H locs hW => ?_)
  refine nv_bne (tgt := 10) F dX4_night_4 (by decide) (fun c_1 => ?_) (fun c_1 => ?_)
  · skip
    refine lv_iconst (v := nI 0) hx hb dX4_night_10 (by decide) ?_
    refine lv_istore_n (lv' := [(2, .int (nI 0)), (0, .ref (xa cx 0)), (1, .int w)]) hx hb dX4_night_11 rfl hl (by decide) rfl (fun ls hl => ?_)
    refine lv_bipush (v := (-9)) hx hb dX4_night_12 (by decide) ?_
    refine lv_istore_n (lv' := [(3, .int ((-9))), (2, .int (nI 0)), (0, .ref (xa cx 0)), (1, .int w)]) hx hb dX4_night_14 rfl hl (by decide) rfl (fun ls hl => ?_)
    refine lv_iconst (v := nI 0) hx hb dX4_night_15 (by decide) ?_
    refine lv_istore (lv' := [(4, .int (nI 0)), (3, .int ((-9))), (2, .int (nI 0)), (0, .ref (xa cx 0)), (1, .int w)]) hx hb dX4_night_16 hl (by decide) rfl (fun ls hl => ?_)
    have LOOP18 : ∀ (d9 i : Nat) (LT1 : LN) (fw : Nat) (fr : Int32) (μ1 : ME) (H : Heap) (locs : List Loc) (ls : Array Slot), i + d9 = Ln (AL S) → (laneR cx μ1 10 LT1) → (off 10 7 μ μ1) → (ntO S (Ln (AL S)) 0 (0, -9) = ntO S d9 i (fw, fr)) → (fw ≤ 9 * i) → St cx s μ1 H locs → lv_has ls 6 [(0, .ref (xa cx 0)), (1, .int w), (2, .int (nI fw)), (3, .int fr), (4, .int (nI i))] → W p l e { frames := 4, cells := 0, slots := 0, locals := 138 } s m [.ref (xa cx 0), .int w].toArray below meth c H locs 0 0 (MQ below (Ei cx (r_night S w) (fun μ1 => mainR cx μ1 S ∧ off 0 136 μ μ1)) [.ref (xa cx 0), .int w].toArray s 0 0 (xA cx)) (F0 m 18 ls []) := by
      intro d9
      induction d9 with
      | zero =>
        intro i LT1 fw fr μ1 H locs ls hid hLi ho1 hf hfw hW hl
        have p0 := (ho1 0 (by omega)).trans m0
        have p3 := (ho1 3 (by omega)).trans o3
        have p117 := (ho1 117 (by omega)).trans o117
        obtain ⟨_, _, _, _, _, _, p10, -⟩ := id hLi
        have hLx := laneR_off hL ho1 (by omega)
        refine lv_iload hx hb dX4_night_18 (lv_at hl 4 rfl) ?_
        refine lv_aload_n hx hb dX4_night_20 rfl (lv_at hl 0 rfl) ?_
        refine nv_get F hW (by omega) p0 rfl iX4 1 (by decide) tw_149 rfl dX4_night_21 ?_
        refine cl_ip (cl_run (rest := [.int (nI i)]) F hW e_X4_68 (c_size hI l h3b hLx hk) ⟨Nat.le_of_ble_eq_true rfl, Nat.le_of_ble_eq_true rfl⟩ (by omega) p3 rfl rfl rfl hl (Nat.le_of_ble_eq_true rfl) dX4_night_24 ⟨Nat.zero_le _, Nat.zero_le _⟩) hW (fun H locs hW => ?_)
        refine nv_cge (tgt := 85) F (by omega) (by omega) dX4_night_27 (by decide) (fun c_2 => ?_) (fun c_2 => ?_)
        · skip
          refine lv_iload_n hx hb dX4_night_85 rfl (lv_at hl 1 rfl) ?_
          refine lv_if_ne (tgt := 93) hx hb dX4_night_86 (by decide) (fun c_3 => ?_) (fun c_3 => ?_)
          · skip
            refine lv_iload_n hx hb dX4_night_93 rfl (lv_at hl 3 rfl) ?_
            have hoz : off 10 7 μ μ1 := (fun z hz => by rw [ho1 z (by omega)])
            exact rt_ie F hr hlk hW (by unfold r_night; rw [‹halI w = true›, if_pos rfl, hf]; first | (rw [if_pos (by assumption)]; rfl) | (rw [if_neg (by assumption)]; rfl)) ⟨mainR_trial hM hoz ⟨_, hLi⟩, off_big hoz (by omega)⟩ dX4_night_94
          · skip
            refine lv_iload_n hx hb dX4_night_89 rfl (lv_at hl 2 rfl) ?_
            refine lv_goto (tgt := 94) hx hb dX4_night_90 (by decide) ?_
            have hoz : off 10 7 μ μ1 := (fun z hz => by rw [ho1 z (by omega)])
            exact rt_ie F hr hlk hW (by unfold r_night; rw [‹halI w = true›, if_pos rfl, hf]; first | (rw [if_pos (by assumption)]; rfl) | (rw [if_neg (by assumption)]; rfl)) ⟨mainR_trial hM hoz ⟨_, hLi⟩, off_big hoz (by omega)⟩ dX4_night_94
        · skip
          exact absurd c_2 (by omega)
      | succ d9 ih18 =>
        intro i LT1 fw fr μ1 H locs ls hid hLi ho1 hf hfw hW hl
        have p0 := (ho1 0 (by omega)).trans m0
        have p3 := (ho1 3 (by omega)).trans o3
        have p117 := (ho1 117 (by omega)).trans o117
        obtain ⟨_, _, _, _, _, _, p10, -⟩ := id hLi
        have hLx := laneR_off hL ho1 (by omega)
        refine lv_iload hx hb dX4_night_18 (lv_at hl 4 rfl) ?_
        refine lv_aload_n hx hb dX4_night_20 rfl (lv_at hl 0 rfl) ?_
        refine nv_get F hW (by omega) p0 rfl iX4 1 (by decide) tw_149 rfl dX4_night_21 ?_
        refine cl_ip (cl_run (rest := [.int (nI i)]) F hW e_X4_68 (c_size hI l h3b hLx hk) ⟨Nat.le_of_ble_eq_true rfl, Nat.le_of_ble_eq_true rfl⟩ (by omega) p3 rfl rfl rfl hl (Nat.le_of_ble_eq_true rfl) dX4_night_24 ⟨Nat.zero_le _, Nat.zero_le _⟩) hW (fun H locs hW => ?_)
        refine nv_cge (tgt := 85) F (by omega) (by omega) dX4_night_27 (by decide) (fun c_4 => ?_) (fun c_4 => ?_)
        · skip
          exact absurd c_4 (by omega)
        · skip
          refine lv_iconst (v := nI 1) hx hb dX4_night_30 (by decide) ?_
          refine lv_istore (lv' := [(5, .int (nI 1)), (0, .ref (xa cx 0)), (1, .int w), (2, .int (nI fw)), (3, .int fr), (4, .int (nI i))]) hx hb dX4_night_31 hl (by decide) rfl (fun ls hl => ?_)
          have LOOP33 : ∀ (d v : Nat) (LT1 : LN) (g : Nat) (gr : Int32) (μ1 : ME) (H : Heap) (locs : List Loc) (ls : Array Slot), v + d = 10 → (laneR cx μ1 10 LT1) → (off 10 7 μ μ1) → (ntI S i 9 1 (fw, fr) = ntI S i d v (g, gr)) → (g + 1 ≤ 9 * i + v) → St cx s μ1 H locs → lv_has ls 6 [(0, .ref (xa cx 0)), (1, .int w), (2, .int (nI g)), (3, .int gr), (4, .int (nI i)), (5, .int (nI v))] → W p l e { frames := 4, cells := 0, slots := 0, locals := 138 } s m [.ref (xa cx 0), .int w].toArray below meth c H locs 0 0 (MQ below (Ei cx (r_night S w) (fun μ1 => mainR cx μ1 S ∧ off 0 136 μ μ1)) [.ref (xa cx 0), .int w].toArray s 0 0 (xA cx)) (F0 m 33 ls []) := by
            intro d
            induction d with
            | zero =>
              intro v LT1 g gr μ1 H locs ls hid hLi ho1 hg2 hg hW hl
              have p0 := (ho1 0 (by omega)).trans m0
              have p3 := (ho1 3 (by omega)).trans o3
              have p117 := (ho1 117 (by omega)).trans o117
              obtain ⟨_, _, _, _, _, _, p10, -⟩ := id hLi
              have hLx := laneR_off hL ho1 (by omega)
              refine lv_iload hx hb dX4_night_33 (lv_at hl 5 rfl) ?_
              refine lv_bipush (v := nI 9) hx hb dX4_night_35 (by decide) ?_
              refine nv_cgt (tgt := 79) F (by omega) (by omega) dX4_night_37 (by decide) (fun c_5 => ?_) (fun c_5 => ?_)
              · skip
                refine lv_iinc (v := ((nI (i + 1)))) (lv' := [(4, .int (nI (i + 1))), (0, .ref (xa cx 0)), (1, .int w), (2, .int (nI g)), (3, .int gr), (5, .int (nI v))]) hx hb dX4_night_79 hl (k := 4) rfl (nI_add _ _) (by decide) rfl (fun ls hl => ?_)
                refine lv_goto (tgt := 18) hx hb dX4_night_82 (by decide) ?_
                exact ih18 (i + 1) _ g gr μ1 _ _ _ (by omega) hLi (fun z hz => by rw [ho1 z (by omega)]) (by rw [hf]; show ntO S d9 (i + 1) (ntI S i 9 1 (fw, fr)) = _; rw [hg2]; rfl) (by omega) hW (lv_sub hl [1, 2, 3, 4, 0] rfl)
              · skip
                exact absurd c_5 (by omega)
            | succ d ih33 =>
              intro v LT1 g gr μ1 H locs ls hid hLi ho1 hg2 hg hW hl
              have p0 := (ho1 0 (by omega)).trans m0
              have p3 := (ho1 3 (by omega)).trans o3
              have p117 := (ho1 117 (by omega)).trans o117
              obtain ⟨_, _, _, _, _, _, p10, -⟩ := id hLi
              have hLx := laneR_off hL ho1 (by omega)
              refine lv_iload hx hb dX4_night_33 (lv_at hl 5 rfl) ?_
              refine lv_bipush (v := nI 9) hx hb dX4_night_35 (by decide) ?_
              refine nv_cgt (tgt := 79) F (by omega) (by omega) dX4_night_37 (by decide) (fun c_6 => ?_) (fun c_6 => ?_)
              · skip
                exact absurd c_6 (by omega)
              · skip
                refine lv_aload_n hx hb dX4_night_40 rfl (lv_at hl 0 rfl) ?_
                refine lv_iload hx hb dX4_night_41 (lv_at hl 4 rfl) ?_
                refine lv_iload hx hb dX4_night_43 (lv_at hl 5 rfl) ?_
                refine cl_ie (cl_run (rest := []) F hW e_X4_212 (c_explainsSeen hI l hN (mainR_trial hM (fun z hz => by rw [ho1 z (by omega)]) ⟨_, hLi⟩) hA hB i v (by omega) (by omega)) ⟨Nat.le_of_ble_eq_true rfl, Nat.le_of_ble_eq_true rfl⟩ (by omega) p0 rfl rfl rfl hl (Nat.le_of_ble_eq_true rfl) dX4_night_45 ⟨Nat.zero_le _, Nat.zero_le _⟩) hW (fun μ7 H locs q_7 hW => ?_)
                obtain ⟨⟨L1_7, hL_7⟩, ho_7⟩ := q_7
                obtain ⟨_, _, _, _, _, _, o10_7, -⟩ := id hL_7
                have o0_7 := (ho_7 0 (by omega)).trans p0
                have o3_7 := (ho_7 3 (by omega)).trans p3
                have o117_7 := (ho_7 117 (by omega)).trans p117
                have hLx3_7 := laneR_off hLx ho_7 (by omega)
                refine nv_beq (tgt := 73) F dX4_night_48 (by decide) (fun c_8 => ?_) (fun c_8 => ?_)
                · skip
                  refine lv_iinc (v := ((nI (v + 1)))) (lv' := [(5, .int (nI (v + 1))), (0, .ref (xa cx 0)), (1, .int w), (2, .int (nI g)), (3, .int gr), (4, .int (nI i))]) hx hb dX4_night_73 hl (k := 5) rfl (nI_add _ _) (by decide) rfl (fun ls hl => ?_)
                  refine lv_goto (tgt := 33) hx hb dX4_night_76 (by decide) ?_
                  exact ih33 (v + 1) _ (g) gr μ7 _ _ _ (by omega) hL_7 (fun z hz => by rw [ho_7 z (by omega)]; rw [ho1 z (by omega)]) (by rw [hg2]; show ntI S i d (v + 1) (if nB S i v = true then _ else (g, gr)) = _; rw [if_neg (by rw [‹nB S i v = false›]; decide)]) (by omega) hW (lv_sub hl [1, 2, 3, 4, 5, 0] rfl)
                · skip
                  refine lv_iinc (v := ((nI (g + 1)))) (lv' := [(2, .int (nI (g + 1))), (0, .ref (xa cx 0)), (1, .int w), (3, .int gr), (4, .int (nI i)), (5, .int (nI v))]) hx hb dX4_night_51 hl (k := 2) rfl (nI_add _ _) (by decide) rfl (fun ls hl => ?_)
                  refine lv_iload_n hx hb dX4_night_54 rfl (lv_at hl 3 rfl) ?_
                  refine lv_bipush (v := (-9)) hx hb dX4_night_55 (by decide) ?_
                  refine lv_icmp_ne (tgt := 71) hx hb dX4_night_57 (by decide) (fun c_9 => ?_) (fun c_9 => ?_)
                  · skip
                    refine lv_iload_n hx hb dX4_night_71 rfl (lv_at hl 3 rfl) ?_
                    refine lv_istore_n (lv' := [(3, .int gr), (2, .int (nI (g + 1))), (0, .ref (xa cx 0)), (1, .int w), (4, .int (nI i)), (5, .int (nI v))]) hx hb dX4_night_72 rfl hl (by decide) rfl (fun ls hl => ?_)
                    refine lv_iinc (v := ((nI (v + 1)))) (lv' := [(5, .int (nI (v + 1))), (3, .int gr), (2, .int (nI (g + 1))), (0, .ref (xa cx 0)), (1, .int w), (4, .int (nI i))]) hx hb dX4_night_73 hl (k := 5) rfl (nI_add _ _) (by decide) rfl (fun ls hl => ?_)
                    refine lv_goto (tgt := 33) hx hb dX4_night_76 (by decide) ?_
                    exact ih33 (v + 1) _ (g + 1) gr μ7 _ _ _ (by omega) hL_7 (fun z hz => by rw [ho_7 z (by omega)]; rw [ho1 z (by omega)]) (by rw [hg2]; show ntI S i d (v + 1) (if nB S i v = true then (g + 1, if gr = -9 then nI (10 * i + v) else gr) else _) = _; rw [if_pos (by assumption), if_neg (by assumption)]) (by omega) hW (lv_sub hl [3, 4, 2, 1, 5, 0] rfl)
                  · skip
                    refine lv_bipush (v := nI 10) hx hb dX4_night_60 (by decide) ?_
                    refine lv_iload hx hb dX4_night_62 (lv_at hl 4 rfl) ?_
                    refine nv_mul F dX4_night_64 ?_
                    refine lv_iload hx hb dX4_night_65 (lv_at hl 5 rfl) ?_
                    refine nv_add F dX4_night_67 ?_
                    refine lv_goto (tgt := 72) hx hb dX4_night_68 (by decide) ?_
                    refine lv_istore_n (lv' := [(3, .int (nI ((10 * i) + v))), (2, .int (nI (g + 1))), (0, .ref (xa cx 0)), (1, .int w), (4, .int (nI i)), (5, .int (nI v))]) hx hb dX4_night_72 rfl hl (by decide) rfl (fun ls hl => ?_)
                    refine lv_iinc (v := ((nI (v + 1)))) (lv' := [(5, .int (nI (v + 1))), (3, .int (nI ((10 * i) + v))), (2, .int (nI (g + 1))), (0, .ref (xa cx 0)), (1, .int w), (4, .int (nI i))]) hx hb dX4_night_73 hl (k := 5) rfl (nI_add _ _) (by decide) rfl (fun ls hl => ?_)
                    refine lv_goto (tgt := 33) hx hb dX4_night_76 (by decide) ?_
                    exact ih33 (v + 1) _ (g + 1) ((nI ((10 * i) + v))) μ7 _ _ _ (by omega) hL_7 (fun z hz => by rw [ho_7 z (by omega)]; rw [ho1 z (by omega)]) (by rw [hg2]; show ntI S i d (v + 1) (if nB S i v = true then (g + 1, if gr = -9 then nI (10 * i + v) else gr) else _) = _; rw [if_pos (by assumption), if_pos (by assumption)]) (by omega) hW (lv_sub hl [3, 4, 2, 1, 5, 0] rfl)
          exact LOOP33 9 1 _ fw fr μ1 _ _ _ (by omega) hLi ho1 rfl (by omega) hW (lv_sub hl [1, 2, 3, 4, 5, 0] rfl)
    exact LOOP18 (Ln (AL S)) 0 _ 0 (-9) μ _ _ _ (by omega) hLT off_rf rfl (by omega) hW (lv_sub hl [3, 4, 2, 1, 0] rfl)
  · skip
    refine lv_bipush (v := (-2)) hx hb dX4_night_7 (by decide) ?_
    exact rt_ie F hr hlk hW (by unfold r_night; rw [‹halI w = false›]; rfl) ⟨hM, off_rf⟩ dX4_night_9

/-! numbers below 0, fractions -/
def iI (z : Int) : Int32 := Int32.ofInt z
theorem iI_nI (n : Nat) : nI n = iI n := by
  unfold nI iI
  exact (Int32.ofInt_eq_ofNat).symm
theorem iI_add (a b : Int) : iI a + iI b = iI (a + b) := (Int32.ofInt_add a b).symm
theorem iI_sub (a b : Int) : iI a - iI b = iI (a - b) := (Int32.ofInt_sub a b).symm
theorem iI_mul (a b : Int) : iI a * iI b = iI (a * b) := (Int32.ofInt_mul a b).symm
theorem iI_toInt {z : Int} (h1 : -2147483648 ≤ z) (h2 : z < 2147483648) : (iI z).toInt = z := Int32.toInt_ofInt_of_le h1 h2
theorem iI_abs {z : Int} (h1 : -2147483648 < z) (h2 : z < 2147483648) : (if 0 ≤ iI z then iI z else 0 - iI z) = nI z.natAbs := by
  rw [iI_nI]
  by_cases h : 0 ≤ z
  · rw [if_pos (by rw [Int32.le_iff_toInt_le, iI_toInt (by omega) h2]; exact h)]
    congr 1
    omega
  · rw [if_neg (by rw [Int32.le_iff_toInt_le, iI_toInt (by omega) h2]; have e : (0 : Int32).toInt = 0 := rfl; omega), show (0 : Int32) = iI 0 from rfl, iI_sub]
    congr 1
    omega
def euc : Nat → Nat → Nat → Nat
  | 0, x, _ => x
  | d + 1, x, y => if y = 0 then x else euc d y (x % y)
theorem euc_gcd : ∀ (k x y d : Nat), y < 2 ^ k → 2 * k + 1 ≤ d → euc d x y = Nat.gcd x y := by
  intro k
  induction k with
  | zero =>
    intro x y d hy hd
    have : y = 0 := by simpa using hy
    subst this
    obtain ⟨e, rfl⟩ : ∃ e, d = e + 1 := ⟨d - 1, by omega⟩
    unfold euc
    simp
  | succ k ih =>
    intro x y d hy hd
    obtain ⟨e, rfl⟩ : ∃ e, d = e + 1 + 1 := ⟨d - 2, by omega⟩
    unfold euc
    by_cases h0 : y = 0
    · rw [if_pos h0]
      subst h0
      simp
    · rw [if_neg h0]
      have hr : x % y < y := Nat.mod_lt _ (by omega)
      have g1 : Nat.gcd x y = Nat.gcd y (x % y) := by rw [Nat.gcd_comm, Nat.gcd_rec, Nat.gcd_comm]
      rw [g1]
      generalize x % y = r at hr
      unfold euc
      by_cases h1 : r = 0
      · rw [if_pos h1]
        subst h1
        simp
      · rw [if_neg h1]
        have hm : y % r < r := Nat.mod_lt _ (by omega)
        have hle : y % r + r ≤ y := by
          have := Nat.div_add_mod y r
          have hq : 0 < y / r := Nat.div_pos (by omega) (by omega)
          have : r ≤ r * (y / r) := Nat.le_mul_of_pos_right r hq
          omega
        have g2 : Nat.gcd y r = Nat.gcd r (y % r) := by rw [Nat.gcd_comm, Nat.gcd_rec, Nat.gcd_comm]
        rw [g2]
        exact ih r (y % r) e (by rw [Nat.pow_succ] at hy; omega) (by omega)
def pofI (z : Int) (b : Nat) (up : Bool) : Int32 := (if up then iI z else nI b) / nI (Nat.gcd z.natAbs b)
def fct : Nat → Nat
  | 0 => 1
  | n + 1 => (n + 1) * fct n
theorem fct_max (n : Nat) : fct (max 1 n) = fct n := by
  cases n with
  | zero => rfl
  | succ n => rw [show max 1 (n + 1) = n + 1 by omega]
theorem fct_le {n : Nat} (h : n ≤ 6) : fct n ≤ 720 ∧ 1 ≤ fct n := by
  rcases (show n = 0 ∨ n = 1 ∨ n = 2 ∨ n = 3 ∨ n = 4 ∨ n = 5 ∨ n = 6 by omega) with rfl | rfl | rfl | rfl | rfl | rfl | rfl <;> decide
theorem max1 {a : Nat} (h : a < 2147483648) (h1 : 1 ≤ a) : (if nI 1 < nI a then nI a else nI 1) = nI a := by
  by_cases q : 1 < a
  · rw [if_pos ((nI_ltI (by decide) h).mpr q)]
  · rw [if_neg (fun z => q ((nI_ltI (by decide) h).mp z)), show a = 1 by omega]

set_option maxHeartbeats 4000000 in
set_option maxRecDepth 100000 in
theorem c_power {cx : CX} (hI : xI cx) (l : Launch) {μ : ME} (x y : Nat) (hy : y ≤ 100) : MT cx l yX4_power cX4_power 4 (some .int) 0 0 [.int (nI x), .int (nI y)] μ (Pi cx μ (nI (x ^ y))) := by
  refine mt_of hI (by decide) (Nat.le_of_ble_eq_true rfl) ?_
  intro p e s m below meth c ls F hr hlk hW hl
  have hx := F.1.1
  have hb := F.1.2.1
  have hts := F.1.2.2.2.2
  have hl : lv_has ls 4 [(0, .int (nI x)), (1, .int (nI y))] := hl
  refine lv_iconst (v := nI 1) hx hb dX4_power_0 (by decide) ?_
  refine lv_istore_n (lv' := [(2, .int (nI 1)), (0, .int (nI x)), (1, .int (nI y))]) hx hb dX4_power_1 rfl hl (by decide) rfl (fun ls hl => ?_)
  refine lv_iconst (v := nI 0) hx hb dX4_power_2 (by decide) ?_
  refine lv_istore_n (lv' := [(3, .int (nI 0)), (2, .int (nI 1)), (0, .int (nI x)), (1, .int (nI y))]) hx hb dX4_power_3 rfl hl (by decide) rfl (fun ls hl => ?_)
  have LOOP : ∀ (d i : Nat)  (H : Heap) (locs : List Loc) (ls : Array Slot), i + d = y → St cx s μ H locs → lv_has ls 4 [(0, .int (nI x)), (1, .int (nI y)), (2, .int (nI (x ^ i))), (3, .int (nI i))] → W p l e { frames := 0, cells := 0, slots := 0, locals := 0 } s m [.int (nI x), .int (nI y)].toArray below meth c H locs 0 0 (MQ below (Pi cx μ (nI (x ^ y))) [.int (nI x), .int (nI y)].toArray s 0 0 (xA cx)) (F0 m 4 ls []) := by
    intro d
    induction d with
    | zero =>
      intro i   H locs ls hid  hW hl
      refine lv_iload_n hx hb dX4_power_4 rfl (lv_at hl 3 rfl) ?_
      refine lv_iload_n hx hb dX4_power_5 rfl (lv_at hl 1 rfl) ?_
      refine nv_cge (tgt := 19) F (by omega) (by omega) dX4_power_6 (by decide) (fun c_1 => ?_) (fun c_1 => ?_)
      · skip
        refine lv_iload_n hx hb dX4_power_19 rfl (lv_at hl 2 rfl) ?_
        exact rt_ip F hr hlk hW (by rw [show i = y by omega]) rfl dX4_power_20
      · skip
        exact absurd c_1 (by omega)
    | succ d ih =>
      intro i   H locs ls hid  hW hl
      refine lv_iload_n hx hb dX4_power_4 rfl (lv_at hl 3 rfl) ?_
      refine lv_iload_n hx hb dX4_power_5 rfl (lv_at hl 1 rfl) ?_
      refine nv_cge (tgt := 19) F (by omega) (by omega) dX4_power_6 (by decide) (fun c_2 => ?_) (fun c_2 => ?_)
      · skip
        exact absurd c_2 (by omega)
      · skip
        refine lv_iload_n hx hb dX4_power_9 rfl (lv_at hl 2 rfl) ?_
        refine lv_iload_n hx hb dX4_power_10 rfl (lv_at hl 0 rfl) ?_
        refine nv_mul F dX4_power_11 ?_
        refine lv_istore_n (lv' := [(2, .int (nI ((x ^ i) * x))), (0, .int (nI x)), (1, .int (nI y)), (3, .int (nI i))]) hx hb dX4_power_12 rfl hl (by decide) rfl (fun ls hl => ?_)
        refine lv_iinc (v := ((nI (i + 1)))) (lv' := [(3, .int (nI (i + 1))), (2, .int (nI ((x ^ i) * x))), (0, .int (nI x)), (1, .int (nI y))]) hx hb dX4_power_13 hl (k := 3) rfl (nI_add _ _) (by decide) rfl (fun ls hl => ?_)
        refine lv_goto (tgt := 4) hx hb dX4_power_16 (by decide) ?_
        exact ih (i + 1) _ _ _ (by omega) hW (by rw [Nat.pow_succ]; exact lv_sub hl [2, 3, 1, 0] rfl)
  exact LOOP y 0 _ _ _ (by omega) hW (lv_sub hl [2, 3, 1, 0] rfl)

set_option maxHeartbeats 4000000 in
set_option maxRecDepth 100000 in
theorem c_factorial {cx : CX} (hI : xI cx) (l : Launch) {μ : ME} (n : Nat) (hn : n ≤ 100) : MT cx l yX4_factorial cX4_factorial 3 (some .int) 0 0 [.int (nI n)] μ (Pi cx μ (nI (fct n))) := by
  refine mt_of hI (by decide) (Nat.le_of_ble_eq_true rfl) ?_
  intro p e s m below meth c ls F hr hlk hW hl
  have hx := F.1.1
  have hb := F.1.2.1
  have hts := F.1.2.2.2.2
  have hl : lv_has ls 3 [(0, .int (nI n))] := hl
  refine lv_iconst (v := nI 1) hx hb dX4_factorial_0 (by decide) ?_
  refine lv_istore_n (lv' := [(1, .int (nI 1)), (0, .int (nI n))]) hx hb dX4_factorial_1 rfl hl (by decide) rfl (fun ls hl => ?_)
  refine lv_iconst (v := nI 2) hx hb dX4_factorial_2 (by decide) ?_
  refine lv_istore_n (lv' := [(2, .int (nI 2)), (1, .int (nI 1)), (0, .int (nI n))]) hx hb dX4_factorial_3 rfl hl (by decide) rfl (fun ls hl => ?_)
  have LOOP : ∀ (d i : Nat)  (H : Heap) (locs : List Loc) (ls : Array Slot), i + d = max 1 n + 1 → (2 ≤ i) → St cx s μ H locs → lv_has ls 3 [(0, .int (nI n)), (1, .int (nI (fct (i - 1)))), (2, .int (nI i))] → W p l e { frames := 0, cells := 0, slots := 0, locals := 0 } s m [.int (nI n)].toArray below meth c H locs 0 0 (MQ below (Pi cx μ (nI (fct n))) [.int (nI n)].toArray s 0 0 (xA cx)) (F0 m 4 ls []) := by
    intro d
    induction d with
    | zero =>
      intro i   H locs ls hid hi2 hW hl
      refine lv_iload_n hx hb dX4_factorial_4 rfl (lv_at hl 2 rfl) ?_
      refine lv_iload_n hx hb dX4_factorial_5 rfl (lv_at hl 0 rfl) ?_
      refine nv_cgt (tgt := 19) F (by omega) (by omega) dX4_factorial_6 (by decide) (fun c_1 => ?_) (fun c_1 => ?_)
      · skip
        refine lv_iload_n hx hb dX4_factorial_19 rfl (lv_at hl 1 rfl) ?_
        exact rt_ip F hr hlk hW (by rw [show i - 1 = max 1 n by omega, fct_max]) rfl dX4_factorial_20
      · skip
        exact absurd c_1 (by omega)
    | succ d ih =>
      intro i   H locs ls hid hi2 hW hl
      refine lv_iload_n hx hb dX4_factorial_4 rfl (lv_at hl 2 rfl) ?_
      refine lv_iload_n hx hb dX4_factorial_5 rfl (lv_at hl 0 rfl) ?_
      refine nv_cgt (tgt := 19) F (by omega) (by omega) dX4_factorial_6 (by decide) (fun c_2 => ?_) (fun c_2 => ?_)
      · skip
        exact absurd c_2 (by omega)
      · skip
        refine lv_iload_n hx hb dX4_factorial_9 rfl (lv_at hl 1 rfl) ?_
        refine lv_iload_n hx hb dX4_factorial_10 rfl (lv_at hl 2 rfl) ?_
        refine nv_mul F dX4_factorial_11 ?_
        refine lv_istore_n (lv' := [(1, .int (nI ((fct (i - 1)) * i))), (0, .int (nI n)), (2, .int (nI i))]) hx hb dX4_factorial_12 rfl hl (by decide) rfl (fun ls hl => ?_)
        refine lv_iinc (v := ((nI (i + 1)))) (lv' := [(2, .int (nI (i + 1))), (1, .int (nI ((fct (i - 1)) * i))), (0, .int (nI n))]) hx hb dX4_factorial_13 hl (k := 2) rfl (nI_add _ _) (by decide) rfl (fun ls hl => ?_)
        refine lv_goto (tgt := 4) hx hb dX4_factorial_16 (by decide) ?_
        exact ih (i + 1) _ _ _ (by omega) (by omega) hW (by rw [show fct (i + 1 - 1) = fct (i - 1) * i by rw [Nat.mul_comm, show i + 1 - 1 = (i - 1) + 1 by omega]; show (i - 1 + 1) * fct (i - 1) = _; rw [show i - 1 + 1 = i by omega]]; exact lv_sub hl [2, 1, 0] rfl)
  exact LOOP (max 1 n - 1) 2 _ _ _ (by omega) (by omega) hW (lv_sub hl [2, 1, 0] rfl)

set_option maxHeartbeats 4000000 in
set_option maxRecDepth 100000 in
theorem c_commonDivisor {cx : CX} (hI : xI cx) (l : Launch) {μ : ME} (a b : Nat) (ha : a < 2147483648) (hb0 : 0 < b) (hbb : b < 2147483648) : MT cx l yX4_commonDivisor cX4_commonDivisor 6 (some .int) 1 21 [.int (nI a), .int (nI b)] μ (Pi cx μ (nI (Nat.gcd a b))) := by
  refine mt_of hI (by decide) (Nat.le_of_ble_eq_true rfl) ?_
  intro p e s m below meth c ls F hr hlk hW hl
  have hx := F.1.1
  have hb := F.1.2.1
  have hts := F.1.2.2.2.2
  have hl : lv_has ls 6 [(0, .int (nI a)), (1, .int (nI b))] := hl
  refine lv_iload_n hx hb dX4_commonDivisor_0 rfl (lv_at hl 0 rfl) ?_
  refine lv_istore_n (lv' := [(2, .int (nI a)), (0, .int (nI a)), (1, .int (nI b))]) hx hb dX4_commonDivisor_1 rfl hl (by decide) rfl (fun ls hl => ?_)
  refine lv_iload_n hx hb dX4_commonDivisor_2 rfl (lv_at hl 2 rfl) ?_
  refine lv_istore_n (lv' := [(3, .int (nI b)), (2, .int (nI a)), (0, .int (nI a)), (1, .int (nI b))]) hx hb dX4_commonDivisor_3 rfl hl (by decide) rfl (fun ls hl => ?_)
  refine lv_iconst (v := nI 0) hx hb dX4_commonDivisor_4 (by decide) ?_
  refine lv_istore (lv' := [(4, .int (nI 0)), (3, .int (nI b)), (2, .int (nI a)), (0, .int (nI a)), (1, .int (nI b))]) hx hb dX4_commonDivisor_5 hl (by decide) rfl (fun ls hl => ?_)
  have LOOP : ∀ (d i : Nat) (x : Nat) (y : Nat) (H : Heap) (locs : List Loc) (ls : Array Slot), i + d = 64 → (euc 64 a b = euc d x y) → (x < 2147483648) → (y < 2147483648) → St cx s μ H locs → lv_has ls 6 [(0, .int (nI a)), (1, .int (nI b)), (2, .int (nI x)), (3, .int (nI y)), (4, .int (nI i))] → W p l e { frames := 1, cells := 0, slots := 0, locals := 21 } s m [.int (nI a), .int (nI b)].toArray below meth c H locs 0 0 (MQ below (Pi cx μ (nI (Nat.gcd a b))) [.int (nI a), .int (nI b)].toArray s 0 0 (xA cx)) (F0 m 7 ls []) := by
    intro d
    induction d with
    | zero =>
      intro i x y  H locs ls hid he hxb hyb hW hl
      refine lv_iload hx hb dX4_commonDivisor_7 (lv_at hl 4 rfl) ?_
      refine lv_bipush (v := nI 64) hx hb dX4_commonDivisor_9 (by decide) ?_
      refine nv_cge (tgt := 34) F (by omega) (by omega) dX4_commonDivisor_11 (by decide) (fun c_1 => ?_) (fun c_1 => ?_)
      · skip
        have hxg : x = Nat.gcd a b := by rw [← euc_gcd 31 a b 64 (by omega) (by omega), he]; rfl
        have hg1 : 1 ≤ Nat.gcd a b := Nat.gcd_pos_of_pos_right a hb0
        have hgl : Nat.gcd a b < 2147483648 := Nat.lt_of_le_of_lt (Nat.le_of_dvd hb0 (Nat.gcd_dvd_right a b)) hbb
        refine lv_iconst (v := nI 1) hx hb dX4_commonDivisor_34 (by decide) ?_
        refine lv_iload_n hx hb dX4_commonDivisor_35 rfl (lv_at hl 2 rfl) ?_
        refine va_mmax hx hb (F.1.2.2.1.trans hl.1.symm) F.1.2.2.2.1 (hts _ tw_549) (hts _ tw_550) (hts _ tw_50) (hts _ tw_551) (Nat.le_of_ble_eq_true rfl) (Nat.le_of_ble_eq_true rfl) (Nat.zero_le _) (Nat.zero_le _) dX4_commonDivisor_36 ?_
        refine nv_top (y := ((nI (Nat.gcd a b)))) (by rw [hxg]; exact max1 hgl hg1) ?_
        exact rt_ip F hr hlk hW rfl rfl dX4_commonDivisor_39
      · skip
        exact absurd c_1 (by omega)
    | succ d ih =>
      intro i x y  H locs ls hid he hxb hyb hW hl
      refine lv_iload hx hb dX4_commonDivisor_7 (lv_at hl 4 rfl) ?_
      refine lv_bipush (v := nI 64) hx hb dX4_commonDivisor_9 (by decide) ?_
      refine nv_cge (tgt := 34) F (by omega) (by omega) dX4_commonDivisor_11 (by decide) (fun c_2 => ?_) (fun c_2 => ?_)
      · skip
        exact absurd c_2 (by omega)
      · skip
        refine lv_iload_n hx hb dX4_commonDivisor_14 rfl (lv_at hl 3 rfl) ?_
        refine nv_zeq (tgt := 34) F (by omega) dX4_commonDivisor_15 (by decide) (fun c_3 => ?_) (fun c_3 => ?_)
        · skip
          have hxg : x = Nat.gcd a b := by rw [← euc_gcd 31 a b 64 (by omega) (by omega), he]; show x = (if y = 0 then x else _); rw [if_pos (by omega)]
          have hg1 : 1 ≤ Nat.gcd a b := Nat.gcd_pos_of_pos_right a hb0
          have hgl : Nat.gcd a b < 2147483648 := Nat.lt_of_le_of_lt (Nat.le_of_dvd hb0 (Nat.gcd_dvd_right a b)) hbb
          refine lv_iconst (v := nI 1) hx hb dX4_commonDivisor_34 (by decide) ?_
          refine lv_iload_n hx hb dX4_commonDivisor_35 rfl (lv_at hl 2 rfl) ?_
          refine va_mmax hx hb (F.1.2.2.1.trans hl.1.symm) F.1.2.2.2.1 (hts _ tw_549) (hts _ tw_550) (hts _ tw_50) (hts _ tw_551) (Nat.le_of_ble_eq_true rfl) (Nat.le_of_ble_eq_true rfl) (Nat.zero_le _) (Nat.zero_le _) dX4_commonDivisor_36 ?_
          refine nv_top (y := ((nI (Nat.gcd a b)))) (by rw [hxg]; exact max1 hgl hg1) ?_
          exact rt_ip F hr hlk hW rfl rfl dX4_commonDivisor_39
        · skip
          refine lv_iload_n hx hb dX4_commonDivisor_18 rfl (lv_at hl 2 rfl) ?_
          refine lv_iload_n hx hb dX4_commonDivisor_19 rfl (lv_at hl 3 rfl) ?_
          refine nv_rem F (by omega) (by omega) (by omega) dX4_commonDivisor_20 ?_
          refine lv_istore (lv' := [(5, .int (nI (x % y))), (0, .int (nI a)), (1, .int (nI b)), (2, .int (nI x)), (3, .int (nI y)), (4, .int (nI i))]) hx hb dX4_commonDivisor_21 hl (by decide) rfl (fun ls hl => ?_)
          refine lv_iload_n hx hb dX4_commonDivisor_23 rfl (lv_at hl 4 rfl) ?_
          refine lv_istore_n (lv' := [(2, .int (nI y)), (5, .int (nI (x % y))), (0, .int (nI a)), (1, .int (nI b)), (3, .int (nI y)), (4, .int (nI i))]) hx hb dX4_commonDivisor_24 rfl hl (by decide) rfl (fun ls hl => ?_)
          refine lv_iload hx hb dX4_commonDivisor_25 (lv_at hl 1 rfl) ?_
          refine lv_istore_n (lv' := [(3, .int (nI (x % y))), (2, .int (nI y)), (5, .int (nI (x % y))), (0, .int (nI a)), (1, .int (nI b)), (4, .int (nI i))]) hx hb dX4_commonDivisor_27 rfl hl (by decide) rfl (fun ls hl => ?_)
          refine lv_iinc (v := ((nI (i + 1)))) (lv' := [(4, .int (nI (i + 1))), (3, .int (nI (x % y))), (2, .int (nI y)), (5, .int (nI (x % y))), (0, .int (nI a)), (1, .int (nI b))]) hx hb dX4_commonDivisor_28 hl (k := 5) rfl (nI_add _ _) (by decide) rfl (fun ls hl => ?_)
          refine lv_goto (tgt := 7) hx hb dX4_commonDivisor_31 (by decide) ?_
          exact ih (i + 1) y (x % y) _ _ _ (by omega) (by rw [he]; show (if y = 0 then _ else _) = _; rw [if_neg (by omega)]) (by omega) (Nat.lt_trans (Nat.mod_lt x (by omega)) hyb) hW (lv_sub hl [4, 5, 2, 1, 0] rfl)
  exact LOOP 64 0 a b _ _ _ (by omega) rfl ha hbb hW (lv_sub hl [3, 4, 2, 1, 0] rfl)

set_option maxHeartbeats 4000000 in
set_option maxRecDepth 100000 in
theorem c_partOfFraction {cx : CX} (hI : xI cx) (l : Launch) {μ : ME} (z : Int) (b : Nat) (up : Bool) (hz1 : -1000000000 < z) (hz2 : z < 1000000000) (hb0 : 0 < b) (hbb : b ≤ 1000000000) : MT cx l yX4_partOfFraction cX4_partOfFraction 4 (some .int) 2 46 [.int (iI z), .int (nI b), .int (b2 up)] μ (Pi cx μ (pofI z b up)) := by
  refine mt_of hI (by decide) (Nat.le_of_ble_eq_true rfl) ?_
  intro p e s m below meth c ls F hr hlk hW hl
  have hx := F.1.1
  have hb := F.1.2.1
  have hts := F.1.2.2.2.2
  have hl : lv_has ls 4 [(0, .int (iI z)), (1, .int (nI b)), (2, .int (b2 up))] := hl
  refine lv_iload_n hx hb dX4_partOfFraction_0 rfl (lv_at hl 0 rfl) ?_
  refine va_mabs hx hb (F.1.2.2.1.trans hl.1.symm) F.1.2.2.2.1 (hts _ tw_543) (hts _ tw_544) (hts _ tw_50) (hts _ tw_545) (Nat.le_of_ble_eq_true rfl) (Nat.le_of_ble_eq_true rfl) (Nat.zero_le _) (Nat.zero_le _) dX4_partOfFraction_1 ?_
  refine nv_top (y := ((nI (z.natAbs)))) (iI_abs (by omega) (by omega)) ?_
  refine lv_iload_n hx hb dX4_partOfFraction_4 rfl (lv_at hl 1 rfl) ?_
  refine cl_ip (cl_runS (rest := []) F hW e_X4_283 (c_commonDivisor hI l z.natAbs b (by omega) hb0 (by omega)) ⟨Nat.le_of_ble_eq_true rfl, Nat.le_of_ble_eq_true rfl⟩ rfl rfl hl (Nat.le_of_ble_eq_true rfl) dX4_partOfFraction_5 ⟨Nat.zero_le _, Nat.zero_le _⟩) hW (fun H locs hW => ?_)
  refine lv_istore_n (lv' := [(3, .int (nI (Nat.gcd z.natAbs b))), (0, .int (iI z)), (1, .int (nI b)), (2, .int (b2 up))]) hx hb dX4_partOfFraction_8 rfl hl (by decide) rfl (fun ls hl => ?_)
  refine lv_iload_n hx hb dX4_partOfFraction_9 rfl (lv_at hl 3 rfl) ?_
  refine nv_beq (tgt := 17) F dX4_partOfFraction_10 (by decide) (fun c_1 => ?_) (fun c_1 => ?_)
  · skip
    refine lv_iload_n hx hb dX4_partOfFraction_17 rfl (lv_at hl 2 rfl) ?_
    refine lv_iload_n hx hb dX4_partOfFraction_18 rfl (lv_at hl 0 rfl) ?_
    refine lv_idiv hx hb dX4_partOfFraction_19 (nI_ne0 (Nat.gcd_pos_of_pos_right _ hb0) (Nat.lt_of_le_of_lt (Nat.le_of_dvd hb0 (Nat.gcd_dvd_right _ b)) (by omega))) ?_
    exact rt_ip F hr hlk hW (by unfold pofI; rw [‹up = _›]; rfl) rfl dX4_partOfFraction_20
  · skip
    refine lv_iload_n hx hb dX4_partOfFraction_13 rfl (lv_at hl 1 rfl) ?_
    refine lv_goto (tgt := 18) hx hb dX4_partOfFraction_14 (by decide) ?_
    refine lv_iload_n hx hb dX4_partOfFraction_18 rfl (lv_at hl 0 rfl) ?_
    refine lv_idiv hx hb dX4_partOfFraction_19 (nI_ne0 (Nat.gcd_pos_of_pos_right _ hb0) (Nat.lt_of_le_of_lt (Nat.le_of_dvd hb0 (Nat.gcd_dvd_right _ b)) (by omega))) ?_
    exact rt_ip F hr hlk hW (by unfold pofI; rw [‹up = _›]; rfl) rfl dX4_partOfFraction_20
