set_option maxHeartbeats 4000000 in
set_option maxRecDepth 100000 in
theorem k_sacks {cx : CX} (hI : xI cx) (l : Launch) {μ : ME} {S : AS} {B : Nat} (hN : 136 ≤ xN cx) (hM : mainR cx μ S) (hA : aok S B) (hB : B < 800000) (w : Int32) : MT cx l yX4_sacks cX4_sacks 7 (some .int) 6 189 [.ref (xa cx 0), .int w] μ (Ei cx (r_sacks S w) (fun μ1 => mainR cx μ1 S ∧ off 0 136 μ μ1)) := by
  refine mt_of hI (by decide) (Nat.le_of_ble_eq_true rfl) ?_
  intro p e s m below meth c ls F hr hlk hW hl
  have hx := F.1.1
  have hb := F.1.2.1
  have hts := F.1.2.2.2.2
  obtain ⟨m0, hT, hL, ⟨LT, hLT⟩, hPa, hSe, hSl⟩ := id hM
  have hk := hA.2.1
  have hn6 := hk.1
  have h3b : 3 + 7 ≤ xN cx := by omega
  have h10b : 10 + 7 ≤ xN cx := by omega
  obtain ⟨_, _, _, _, _, _, o3, -⟩ := id hL
  obtain ⟨_, _, _, _, _, _, o10, -⟩ := id hLT
  obtain ⟨_, o1, -⟩ := id hT
  obtain ⟨_, _, o17, -⟩ := id hPa
  obtain ⟨_, _, _, o117, -⟩ := id hSe
  obtain ⟨⟨gs, o121, hgs⟩, hsl2, hsl3⟩ := id hSl
  have hl : lv_has ls 7 [(0, .ref (xa cx 0)), (1, .int w)] := hl
  refine lv_iload_n hx hb dX4_sacks_0 rfl (lv_at hl 1 rfl) ?_
  refine cl_ip (cl_runS (rest := []) F hW e_X4_135 (c_isHalf hI l w) ⟨Nat.le_of_ble_eq_true rfl, Nat.le_of_ble_eq_true rfl⟩ rfl rfl hl (Nat.le_of_ble_eq_true rfl) dX4_sacks_1 ⟨Nat.zero_le _, Nat.zero_le _⟩) hW (fun H locs hW => ?_)
  refine nv_bne (tgt := 10) F dX4_sacks_4 (by decide) (fun c_1 => ?_) (fun c_1 => ?_)
  · skip
    refine lv_aload_n hx hb dX4_sacks_10 rfl (lv_at hl 0 rfl) ?_
    refine nv_get F hW (by omega) m0 rfl iX4 2 (by decide) tw_150 rfl dX4_sacks_11 ?_
    refine lv_aload_n hx hb dX4_sacks_14 rfl (lv_at hl 0 rfl) ?_
    refine nv_get F hW (by omega) m0 rfl iX4 1 (by decide) tw_149 rfl dX4_sacks_15 ?_
    refine cl_v (cl_run (rest := []) F hW e_X4_138 (c_copyFrom hI l h10b h3b (by omega) hLT hL (hk).1) ⟨Nat.le_of_ble_eq_true rfl, Nat.le_of_ble_eq_true rfl⟩ (by omega) o10 rfl rfl rfl hl (Nat.le_of_ble_eq_true rfl) dX4_sacks_18 ⟨Nat.zero_le _, Nat.zero_le _⟩) hW (fun μ2 H locs q_2 hW => ?_)
    obtain ⟨hL_2, ho_2⟩ := q_2
    obtain ⟨_, _, _, _, _, _, o10_2, -⟩ := id hL_2
    have hk_2 := hk
    have o0_2 := (ho_2 0 (by omega)).trans m0
    have o1_2 := (ho_2 1 (by omega)).trans o1
    have o3_2 := (ho_2 3 (by omega)).trans o3
    have o17_2 := (ho_2 17 (by omega)).trans o17
    have o117_2 := (ho_2 117 (by omega)).trans o117
    have o121_2 := (ho_2 121 (by omega)).trans o121
    have hLx3_2 := laneR_off hL ho_2 (by omega)
    refine lv_aload_n hx hb dX4_sacks_21 rfl (lv_at hl 0 rfl) ?_
    refine nv_get F hW (by omega) o0_2 rfl iX4 2 (by decide) tw_150 rfl dX4_sacks_22 ?_
    refine lv_bipush (v := nI 6) hx hb dX4_sacks_25 (by decide) ?_
    refine cl_ie (cl_run (rest := []) F hW e_X4_181 (c_staysCalm hI l h10b hL_2 hk_2 6 (by omega) (by omega)) ⟨Nat.le_of_ble_eq_true rfl, Nat.le_of_ble_eq_true rfl⟩ (by omega) o10_2 rfl rfl rfl hl (Nat.le_of_ble_eq_true rfl) dX4_sacks_27 ⟨Nat.zero_le _, Nat.zero_le _⟩) hW (fun μ3 H locs q_3 hW => ?_)
    obtain ⟨⟨L1_3, hL_3⟩, ho_3⟩ := q_3
    obtain ⟨_, _, _, _, _, _, o10_3, -⟩ := id hL_3
    have o0_3 := (ho_3 0 (by omega)).trans o0_2
    have o1_3 := (ho_3 1 (by omega)).trans o1_2
    have o3_3 := (ho_3 3 (by omega)).trans o3_2
    have o17_3 := (ho_3 17 (by omega)).trans o17_2
    have o117_3 := (ho_3 117 (by omega)).trans o117_2
    have o121_3 := (ho_3 121 (by omega)).trans o121_2
    have hLx3_3 := laneR_off hLx3_2 ho_3 (by omega)
    refine nv_beq (tgt := 35) F dX4_sacks_30 (by decide) (fun c_4 => ?_) (fun c_4 => ?_)
    · skip
      refine lv_bipush (v := nI 19) hx hb dX4_sacks_35 (by decide) ?_
      refine lv_istore_n (lv' := [(2, .int (nI 19)), (0, .ref (xa cx 0)), (1, .int w)]) hx hb dX4_sacks_37 rfl hl (by decide) rfl (fun ls hl => ?_)
      refine lv_bipush (v := (-9)) hx hb dX4_sacks_38 (by decide) ?_
      refine lv_istore_n (lv' := [(3, .int ((-9))), (2, .int (nI 19)), (0, .ref (xa cx 0)), (1, .int w)]) hx hb dX4_sacks_40 rfl hl (by decide) rfl (fun ls hl => ?_)
      refine lv_iconst (v := nI 0) hx hb dX4_sacks_41 (by decide) ?_
      refine lv_istore (lv' := [(4, .int (nI 0)), (3, .int ((-9))), (2, .int (nI 19)), (0, .ref (xa cx 0)), (1, .int w)]) hx hb dX4_sacks_42 hl (by decide) rfl (fun ls hl => ?_)
      have LOOP44 : ∀ (d9 i : Nat) (LT1 : LN) (fw : Nat) (fr : Int32) (μ1 : ME) (H : Heap) (locs : List Loc) (ls : Array Slot), i + d9 = Ln (AL S) → (laneR cx μ1 10 LT1) → (off 10 7 μ μ1) → (skO (AL S) (Ln (AL S)) 0 (19, -9) = skO (AL S) d9 i (fw, fr)) → (fw ≤ 19) → St cx s μ1 H locs → lv_has ls 7 [(0, .ref (xa cx 0)), (1, .int w), (2, .int (nI fw)), (3, .int fr), (4, .int (nI i))] → W p l e { frames := 6, cells := 0, slots := 0, locals := 189 } s m [.ref (xa cx 0), .int w].toArray below meth c H locs 0 0 (MQ below (Ei cx (r_sacks S w) (fun μ1 => mainR cx μ1 S ∧ off 0 136 μ μ1)) [.ref (xa cx 0), .int w].toArray s 0 0 (xA cx)) (F0 m 44 ls []) := by
        intro d9
        induction d9 with
        | zero =>
          intro i LT1 fw fr μ1 H locs ls hid hLi ho1 hf hfw hW hl
          have p0 := (ho1 0 (by omega)).trans m0
          have p3 := (ho1 3 (by omega)).trans o3
          have p117 := (ho1 117 (by omega)).trans o117
          obtain ⟨_, _, _, _, _, _, p10, -⟩ := id hLi
          have hLx := laneR_off hL ho1 (by omega)
          refine lv_iload hx hb dX4_sacks_44 (lv_at hl 4 rfl) ?_
          refine lv_aload_n hx hb dX4_sacks_46 rfl (lv_at hl 0 rfl) ?_
          refine nv_get F hW (by omega) p0 rfl iX4 1 (by decide) tw_149 rfl dX4_sacks_47 ?_
          refine cl_ip (cl_run (rest := [.int (nI i)]) F hW e_X4_68 (c_size hI l h3b hLx hk) ⟨Nat.le_of_ble_eq_true rfl, Nat.le_of_ble_eq_true rfl⟩ (by omega) p3 rfl rfl rfl hl (Nat.le_of_ble_eq_true rfl) dX4_sacks_50 ⟨Nat.zero_le _, Nat.zero_le _⟩) hW (fun H locs hW => ?_)
          refine nv_cge (tgt := 130) F (by omega) (by omega) dX4_sacks_53 (by decide) (fun c_5 => ?_) (fun c_5 => ?_)
          · skip
            refine lv_iload_n hx hb dX4_sacks_130 rfl (lv_at hl 1 rfl) ?_
            refine lv_if_ne (tgt := 144) hx hb dX4_sacks_131 (by decide) (fun c_6 => ?_) (fun c_6 => ?_)
            · skip
              refine lv_iload_n hx hb dX4_sacks_144 rfl (lv_at hl 3 rfl) ?_
              have hoz : off 10 7 μ μ1 := (fun z hz => by rw [ho1 z (by omega)])
              exact rt_ie F hr hlk hW (by unfold r_sacks; rw [‹halI w = true›, if_pos rfl, ‹calm 6 (AL S) = false›]; show _ = (if _ ∧ _ then nI (skO (AL S) (Ln (AL S)) 0 (19, -9)).1 else (skO (AL S) (Ln (AL S)) 0 (19, -9)).2); rw [hf]; first | (rw [if_pos ⟨by assumption, by assumption⟩]; rfl) | (rw [if_neg (fun q => by first | exact absurd q.1 (by assumption) | exact q.2 (by assumption))]; rfl)) ⟨mainR_trial hM hoz ⟨_, hLi⟩, off_big hoz (by omega)⟩ dX4_sacks_145
            · skip
              refine lv_iload_n hx hb dX4_sacks_134 rfl (lv_at hl 3 rfl) ?_
              refine lv_bipush (v := (-9)) hx hb dX4_sacks_135 (by decide) ?_
              refine lv_icmp_eq (tgt := 144) hx hb dX4_sacks_137 (by decide) (fun c_7 => ?_) (fun c_7 => ?_)
              · skip
                refine lv_iload_n hx hb dX4_sacks_144 rfl (lv_at hl 3 rfl) ?_
                have hoz : off 10 7 μ μ1 := (fun z hz => by rw [ho1 z (by omega)])
                exact rt_ie F hr hlk hW (by unfold r_sacks; rw [‹halI w = true›, if_pos rfl, ‹calm 6 (AL S) = false›]; show _ = (if _ ∧ _ then nI (skO (AL S) (Ln (AL S)) 0 (19, -9)).1 else (skO (AL S) (Ln (AL S)) 0 (19, -9)).2); rw [hf]; first | (rw [if_pos ⟨by assumption, by assumption⟩]; rfl) | (rw [if_neg (fun q => by first | exact absurd q.1 (by assumption) | exact q.2 (by assumption))]; rfl)) ⟨mainR_trial hM hoz ⟨_, hLi⟩, off_big hoz (by omega)⟩ dX4_sacks_145
              · skip
                refine lv_iload_n hx hb dX4_sacks_140 rfl (lv_at hl 2 rfl) ?_
                refine lv_goto (tgt := 145) hx hb dX4_sacks_141 (by decide) ?_
                have hoz : off 10 7 μ μ1 := (fun z hz => by rw [ho1 z (by omega)])
                exact rt_ie F hr hlk hW (by unfold r_sacks; rw [‹halI w = true›, if_pos rfl, ‹calm 6 (AL S) = false›]; show _ = (if _ ∧ _ then nI (skO (AL S) (Ln (AL S)) 0 (19, -9)).1 else (skO (AL S) (Ln (AL S)) 0 (19, -9)).2); rw [hf]; first | (rw [if_pos ⟨by assumption, by assumption⟩]; rfl) | (rw [if_neg (fun q => by first | exact absurd q.1 (by assumption) | exact q.2 (by assumption))]; rfl)) ⟨mainR_trial hM hoz ⟨_, hLi⟩, off_big hoz (by omega)⟩ dX4_sacks_145
          · skip
            exact absurd c_5 (by omega)
        | succ d9 ih44 =>
          intro i LT1 fw fr μ1 H locs ls hid hLi ho1 hf hfw hW hl
          have p0 := (ho1 0 (by omega)).trans m0
          have p3 := (ho1 3 (by omega)).trans o3
          have p117 := (ho1 117 (by omega)).trans o117
          obtain ⟨_, _, _, _, _, _, p10, -⟩ := id hLi
          have hLx := laneR_off hL ho1 (by omega)
          refine lv_iload hx hb dX4_sacks_44 (lv_at hl 4 rfl) ?_
          refine lv_aload_n hx hb dX4_sacks_46 rfl (lv_at hl 0 rfl) ?_
          refine nv_get F hW (by omega) p0 rfl iX4 1 (by decide) tw_149 rfl dX4_sacks_47 ?_
          refine cl_ip (cl_run (rest := [.int (nI i)]) F hW e_X4_68 (c_size hI l h3b hLx hk) ⟨Nat.le_of_ble_eq_true rfl, Nat.le_of_ble_eq_true rfl⟩ (by omega) p3 rfl rfl rfl hl (Nat.le_of_ble_eq_true rfl) dX4_sacks_50 ⟨Nat.zero_le _, Nat.zero_le _⟩) hW (fun H locs hW => ?_)
          refine nv_cge (tgt := 130) F (by omega) (by omega) dX4_sacks_53 (by decide) (fun c_8 => ?_) (fun c_8 => ?_)
          · skip
            exact absurd c_8 (by omega)
          · skip
            refine lv_iload hx hb dX4_sacks_56 (lv_at hl 4 rfl) ?_
            refine lv_istore (lv' := [(5, .int (nI i)), (0, .ref (xa cx 0)), (1, .int w), (2, .int (nI fw)), (3, .int fr), (4, .int (nI i))]) hx hb dX4_sacks_58 hl (by decide) rfl (fun ls hl => ?_)
            have LOOP60 : ∀ (d o : Nat) (LT1 : LN) (g : Nat) (gr : Int32) (μ1 : ME) (H : Heap) (locs : List Loc) (ls : Array Slot), o + d = Ln (AL S) → (laneR cx μ1 10 LT1) → (off 10 7 μ μ1) → (skI (AL S) i (Ln (AL S) - i) i (fw, fr) = skI (AL S) i d o (g, gr)) → (g ≤ 19) → St cx s μ1 H locs → lv_has ls 7 [(0, .ref (xa cx 0)), (1, .int w), (2, .int (nI g)), (3, .int gr), (4, .int (nI i)), (5, .int (nI o))] → W p l e { frames := 6, cells := 0, slots := 0, locals := 189 } s m [.ref (xa cx 0), .int w].toArray below meth c H locs 0 0 (MQ below (Ei cx (r_sacks S w) (fun μ1 => mainR cx μ1 S ∧ off 0 136 μ μ1)) [.ref (xa cx 0), .int w].toArray s 0 0 (xA cx)) (F0 m 60 ls []) := by
              intro d
              induction d with
              | zero =>
                intro o LT1 g gr μ1 H locs ls hid hLi ho1 hg2 hg hW hl
                have p0 := (ho1 0 (by omega)).trans m0
                have p3 := (ho1 3 (by omega)).trans o3
                have p117 := (ho1 117 (by omega)).trans o117
                obtain ⟨_, _, _, _, _, _, p10, -⟩ := id hLi
                have hLx := laneR_off hL ho1 (by omega)
                refine lv_iload hx hb dX4_sacks_60 (lv_at hl 5 rfl) ?_
                refine lv_aload_n hx hb dX4_sacks_62 rfl (lv_at hl 0 rfl) ?_
                refine nv_get F hW (by omega) p0 rfl iX4 1 (by decide) tw_149 rfl dX4_sacks_63 ?_
                refine cl_ip (cl_run (rest := [.int (nI o)]) F hW e_X4_68 (c_size hI l h3b hLx hk) ⟨Nat.le_of_ble_eq_true rfl, Nat.le_of_ble_eq_true rfl⟩ (by omega) p3 rfl rfl rfl hl (Nat.le_of_ble_eq_true rfl) dX4_sacks_66 ⟨Nat.zero_le _, Nat.zero_le _⟩) hW (fun H locs hW => ?_)
                refine nv_cge (tgt := 124) F (by omega) (by omega) dX4_sacks_69 (by decide) (fun c_9 => ?_) (fun c_9 => ?_)
                · skip
                  refine lv_iinc (v := ((nI (i + 1)))) (lv' := [(4, .int (nI (i + 1))), (0, .ref (xa cx 0)), (1, .int w), (2, .int (nI g)), (3, .int gr), (5, .int (nI o))]) hx hb dX4_sacks_124 hl (k := 4) rfl (nI_add _ _) (by decide) rfl (fun ls hl => ?_)
                  refine lv_goto (tgt := 44) hx hb dX4_sacks_127 (by decide) ?_
                  exact ih44 (i + 1) _ g gr μ1 _ _ _ (by omega) hLi (fun z hz => by rw [ho1 z (by omega)]) (by rw [hf]; show skO (AL S) d9 (i + 1) (skI (AL S) i (Ln (AL S) - i) i (fw, fr)) = _; rw [hg2]; rfl) (by omega) hW (lv_sub hl [1, 2, 3, 4, 0] rfl)
                · skip
                  exact absurd c_9 (by omega)
              | succ d ih60 =>
                intro o LT1 g gr μ1 H locs ls hid hLi ho1 hg2 hg hW hl
                have p0 := (ho1 0 (by omega)).trans m0
                have p3 := (ho1 3 (by omega)).trans o3
                have p117 := (ho1 117 (by omega)).trans o117
                obtain ⟨_, _, _, _, _, _, p10, -⟩ := id hLi
                have hLx := laneR_off hL ho1 (by omega)
                refine lv_iload hx hb dX4_sacks_60 (lv_at hl 5 rfl) ?_
                refine lv_aload_n hx hb dX4_sacks_62 rfl (lv_at hl 0 rfl) ?_
                refine nv_get F hW (by omega) p0 rfl iX4 1 (by decide) tw_149 rfl dX4_sacks_63 ?_
                refine cl_ip (cl_run (rest := [.int (nI o)]) F hW e_X4_68 (c_size hI l h3b hLx hk) ⟨Nat.le_of_ble_eq_true rfl, Nat.le_of_ble_eq_true rfl⟩ (by omega) p3 rfl rfl rfl hl (Nat.le_of_ble_eq_true rfl) dX4_sacks_66 ⟨Nat.zero_le _, Nat.zero_le _⟩) hW (fun H locs hW => ?_)
                refine nv_cge (tgt := 124) F (by omega) (by omega) dX4_sacks_69 (by decide) (fun c_10 => ?_) (fun c_10 => ?_)
                · skip
                  exact absurd c_10 (by omega)
                · skip
                  refine lv_iload hx hb dX4_sacks_72 (lv_at hl 4 rfl) ?_
                  refine lv_iload hx hb dX4_sacks_74 (lv_at hl 5 rfl) ?_
                  refine nv_cne (tgt := 89) F (by omega) (by omega) dX4_sacks_76 (by decide) (fun c_11 => ?_) (fun c_11 => ?_)
                  · skip
                    refine lv_aload_n hx hb dX4_sacks_89 rfl (lv_at hl 0 rfl) ?_
                    refine lv_iload hx hb dX4_sacks_90 (lv_at hl 4 rfl) ?_
                    refine lv_iload hx hb dX4_sacks_92 (lv_at hl 5 rfl) ?_
                    refine lv_iload_n hx hb dX4_sacks_94 rfl (lv_at hl 2 rfl) ?_
                    refine cl_ie (cl_run (rest := []) F hW e_X4_187 (c_fewestFromTwo hI l hN (mainR_trial hM (fun z hz => by rw [ho1 z (by omega)]) ⟨_, hLi⟩) hA hB i o g (by omega) (by omega) (by omega)) ⟨Nat.le_of_ble_eq_true rfl, Nat.le_of_ble_eq_true rfl⟩ (by omega) p0 rfl rfl rfl hl (Nat.le_of_ble_eq_true rfl) dX4_sacks_95 ⟨Nat.zero_le _, Nat.zero_le _⟩) hW (fun μ12 H locs q_12 hW => ?_)
                    obtain ⟨⟨L1_12, hL_12⟩, ho_12⟩ := q_12
                    obtain ⟨_, _, _, _, _, _, o10_12, -⟩ := id hL_12
                    have o0_12 := (ho_12 0 (by omega)).trans p0
                    have o3_12 := (ho_12 3 (by omega)).trans p3
                    have o117_12 := (ho_12 117 (by omega)).trans p117
                    have hLx3_12 := laneR_off hLx ho_12 (by omega)
                    refine lv_istore (lv' := [(6, .int (nI (f2R (AL S) i o g))), (0, .ref (xa cx 0)), (1, .int w), (2, .int (nI g)), (3, .int gr), (4, .int (nI i)), (5, .int (nI o))]) hx hb dX4_sacks_98 hl (by decide) rfl (fun ls hl => ?_)
                    refine lv_iload hx hb dX4_sacks_100 (lv_at hl 0 rfl) ?_
                    refine lv_iload_n hx hb dX4_sacks_102 rfl (lv_at hl 3 rfl) ?_
                    refine nv_cge (tgt := 118) F (by have := f1F_le (AL S) i g 9 1; have := f2R_le (AL S) i o g; omega) (by omega) dX4_sacks_103 (by decide) (fun c_13 => ?_) (fun c_13 => ?_)
                    · skip
                      refine lv_iinc (v := ((nI (o + 1)))) (lv' := [(5, .int (nI (o + 1))), (6, .int (nI (f2R (AL S) i o g))), (0, .ref (xa cx 0)), (1, .int w), (2, .int (nI g)), (3, .int gr), (4, .int (nI i))]) hx hb dX4_sacks_118 hl (k := 6) rfl (nI_add _ _) (by decide) rfl (fun ls hl => ?_)
                      refine lv_goto (tgt := 60) hx hb dX4_sacks_121 (by decide) ?_
                      exact ih60 (o + 1) _ g gr μ12 _ _ _ (by omega) hL_12 (fun z hz => by rw [ho_12 z (by omega)]; rw [ho1 z (by omega)]) (by rw [hg2]; show skI (AL S) i d (o + 1) (if (if i = o then f1F (AL S) i g 9 1 else f2R (AL S) i o g) < g then ((if i = o then f1F (AL S) i g 9 1 else f2R (AL S) i o g), nI (10 * i + o)) else (g, gr)) = _; rw [if_neg (show ¬ i = o by omega), if_neg (by omega)]) (by have := f1F_le (AL S) i g 9 1; have := f2R_le (AL S) i o g; omega) hW (lv_sub hl [2, 3, 4, 5, 6, 0] rfl)
                    · skip
                      refine lv_iload hx hb dX4_sacks_106 (lv_at hl 0 rfl) ?_
                      refine lv_istore_n (lv' := [(2, .int (nI (f2R (AL S) i o g))), (6, .int (nI (f2R (AL S) i o g))), (0, .ref (xa cx 0)), (1, .int w), (3, .int gr), (4, .int (nI i)), (5, .int (nI o))]) hx hb dX4_sacks_108 rfl hl (by decide) rfl (fun ls hl => ?_)
                      refine lv_bipush (v := nI 10) hx hb dX4_sacks_109 (by decide) ?_
                      refine lv_iload hx hb dX4_sacks_111 (lv_at hl 5 rfl) ?_
                      refine nv_mul F dX4_sacks_113 ?_
                      refine lv_iload hx hb dX4_sacks_114 (lv_at hl 6 rfl) ?_
                      refine nv_add F dX4_sacks_116 ?_
                      refine lv_istore_n (lv' := [(3, .int (nI ((10 * i) + o))), (2, .int (nI (f2R (AL S) i o g))), (6, .int (nI (f2R (AL S) i o g))), (0, .ref (xa cx 0)), (1, .int w), (4, .int (nI i)), (5, .int (nI o))]) hx hb dX4_sacks_117 rfl hl (by decide) rfl (fun ls hl => ?_)
                      refine lv_iinc (v := ((nI (o + 1)))) (lv' := [(5, .int (nI (o + 1))), (3, .int (nI ((10 * i) + o))), (2, .int (nI (f2R (AL S) i o g))), (6, .int (nI (f2R (AL S) i o g))), (0, .ref (xa cx 0)), (1, .int w), (4, .int (nI i))]) hx hb dX4_sacks_118 hl (k := 6) rfl (nI_add _ _) (by decide) rfl (fun ls hl => ?_)
                      refine lv_goto (tgt := 60) hx hb dX4_sacks_121 (by decide) ?_
                      exact ih60 (o + 1) _ (f2R (AL S) i o g) ((nI ((10 * i) + o))) μ12 _ _ _ (by omega) hL_12 (fun z hz => by rw [ho_12 z (by omega)]; rw [ho1 z (by omega)]) (by rw [hg2]; show skI (AL S) i d (o + 1) (if (if i = o then f1F (AL S) i g 9 1 else f2R (AL S) i o g) < g then ((if i = o then f1F (AL S) i g 9 1 else f2R (AL S) i o g), nI (10 * i + o)) else (g, gr)) = _; rw [if_neg (show ¬ i = o by omega), if_pos (by omega)]) (by have := f1F_le (AL S) i g 9 1; have := f2R_le (AL S) i o g; omega) hW (lv_sub hl [4, 5, 2, 1, 6, 0] rfl)
                  · skip
                    refine lv_aload_n hx hb dX4_sacks_79 rfl (lv_at hl 0 rfl) ?_
                    refine lv_iload hx hb dX4_sacks_80 (lv_at hl 4 rfl) ?_
                    refine lv_iload_n hx hb dX4_sacks_82 rfl (lv_at hl 2 rfl) ?_
                    refine cl_ie (cl_run (rest := []) F hW e_X4_184 (c_fewestFromOne hI l hN (mainR_trial hM (fun z hz => by rw [ho1 z (by omega)]) ⟨_, hLi⟩) hA hB i g (by omega) (by omega)) ⟨Nat.le_of_ble_eq_true rfl, Nat.le_of_ble_eq_true rfl⟩ (by omega) p0 rfl rfl rfl hl (Nat.le_of_ble_eq_true rfl) dX4_sacks_83 ⟨Nat.zero_le _, Nat.zero_le _⟩) hW (fun μ14 H locs q_14 hW => ?_)
                    obtain ⟨⟨L1_14, hL_14⟩, ho_14⟩ := q_14
                    obtain ⟨_, _, _, _, _, _, o10_14, -⟩ := id hL_14
                    have o0_14 := (ho_14 0 (by omega)).trans p0
                    have o3_14 := (ho_14 3 (by omega)).trans p3
                    have o117_14 := (ho_14 117 (by omega)).trans p117
                    have hLx3_14 := laneR_off hLx ho_14 (by omega)
                    refine lv_goto (tgt := 98) hx hb dX4_sacks_86 (by decide) ?_
                    refine lv_istore (lv' := [(6, .int (nI (f1F (AL S) i g 9 1))), (0, .ref (xa cx 0)), (1, .int w), (2, .int (nI g)), (3, .int gr), (4, .int (nI i)), (5, .int (nI o))]) hx hb dX4_sacks_98 hl (by decide) rfl (fun ls hl => ?_)
                    refine lv_iload hx hb dX4_sacks_100 (lv_at hl 0 rfl) ?_
                    refine lv_iload_n hx hb dX4_sacks_102 rfl (lv_at hl 3 rfl) ?_
                    refine nv_cge (tgt := 118) F (by have := f1F_le (AL S) i g 9 1; have := f2R_le (AL S) i o g; omega) (by omega) dX4_sacks_103 (by decide) (fun c_15 => ?_) (fun c_15 => ?_)
                    · skip
                      refine lv_iinc (v := ((nI (o + 1)))) (lv' := [(5, .int (nI (o + 1))), (6, .int (nI (f1F (AL S) i g 9 1))), (0, .ref (xa cx 0)), (1, .int w), (2, .int (nI g)), (3, .int gr), (4, .int (nI i))]) hx hb dX4_sacks_118 hl (k := 6) rfl (nI_add _ _) (by decide) rfl (fun ls hl => ?_)
                      refine lv_goto (tgt := 60) hx hb dX4_sacks_121 (by decide) ?_
                      exact ih60 (o + 1) _ g gr μ14 _ _ _ (by omega) hL_14 (fun z hz => by rw [ho_14 z (by omega)]; rw [ho1 z (by omega)]) (by rw [hg2]; show skI (AL S) i d (o + 1) (if (if i = o then f1F (AL S) i g 9 1 else f2R (AL S) i o g) < g then ((if i = o then f1F (AL S) i g 9 1 else f2R (AL S) i o g), nI (10 * i + o)) else (g, gr)) = _; rw [if_pos (show i = o by omega), if_neg (by omega)]) (by have := f1F_le (AL S) i g 9 1; have := f2R_le (AL S) i o g; omega) hW (lv_sub hl [2, 3, 4, 5, 6, 0] rfl)
                    · skip
                      refine lv_iload hx hb dX4_sacks_106 (lv_at hl 0 rfl) ?_
                      refine lv_istore_n (lv' := [(2, .int (nI (f1F (AL S) i g 9 1))), (6, .int (nI (f1F (AL S) i g 9 1))), (0, .ref (xa cx 0)), (1, .int w), (3, .int gr), (4, .int (nI i)), (5, .int (nI o))]) hx hb dX4_sacks_108 rfl hl (by decide) rfl (fun ls hl => ?_)
                      refine lv_bipush (v := nI 10) hx hb dX4_sacks_109 (by decide) ?_
                      refine lv_iload hx hb dX4_sacks_111 (lv_at hl 5 rfl) ?_
                      refine nv_mul F dX4_sacks_113 ?_
                      refine lv_iload hx hb dX4_sacks_114 (lv_at hl 6 rfl) ?_
                      refine nv_add F dX4_sacks_116 ?_
                      refine lv_istore_n (lv' := [(3, .int (nI ((10 * i) + o))), (2, .int (nI (f1F (AL S) i g 9 1))), (6, .int (nI (f1F (AL S) i g 9 1))), (0, .ref (xa cx 0)), (1, .int w), (4, .int (nI i)), (5, .int (nI o))]) hx hb dX4_sacks_117 rfl hl (by decide) rfl (fun ls hl => ?_)
                      refine lv_iinc (v := ((nI (o + 1)))) (lv' := [(5, .int (nI (o + 1))), (3, .int (nI ((10 * i) + o))), (2, .int (nI (f1F (AL S) i g 9 1))), (6, .int (nI (f1F (AL S) i g 9 1))), (0, .ref (xa cx 0)), (1, .int w), (4, .int (nI i))]) hx hb dX4_sacks_118 hl (k := 6) rfl (nI_add _ _) (by decide) rfl (fun ls hl => ?_)
                      refine lv_goto (tgt := 60) hx hb dX4_sacks_121 (by decide) ?_
                      exact ih60 (o + 1) _ (f1F (AL S) i g 9 1) ((nI ((10 * i) + o))) μ14 _ _ _ (by omega) hL_14 (fun z hz => by rw [ho_14 z (by omega)]; rw [ho1 z (by omega)]) (by rw [hg2]; show skI (AL S) i d (o + 1) (if (if i = o then f1F (AL S) i g 9 1 else f2R (AL S) i o g) < g then ((if i = o then f1F (AL S) i g 9 1 else f2R (AL S) i o g), nI (10 * i + o)) else (g, gr)) = _; rw [if_pos (show i = o by omega), if_pos (by omega)]) (by have := f1F_le (AL S) i g 9 1; have := f2R_le (AL S) i o g; omega) hW (lv_sub hl [4, 5, 2, 1, 6, 0] rfl)
            exact LOOP60 (Ln (AL S) - i) i _ fw fr μ1 _ _ _ (by omega) hLi ho1 rfl hfw hW (lv_sub hl [1, 2, 3, 4, 5, 0] rfl)
      exact LOOP44 (Ln (AL S)) 0 _ 19 (-9) μ3 _ _ _ (by omega) hL_3 (fun z hz => by rw [ho_3 z (by omega)]; rw [ho_2 z (by omega)]) rfl (by omega) hW (lv_sub hl [3, 4, 2, 1, 0] rfl)
    · skip
      refine lv_iconst (v := nI 0) hx hb dX4_sacks_33 (by decide) ?_
      have hoz : off 10 7 μ μ3 := (fun z hz => by rw [ho_3 z (by omega)]; rw [ho_2 z (by omega)])
      exact rt_ie F hr hlk hW (by unfold r_sacks; rw [‹halI w = true›, if_pos rfl, ‹calm 6 (AL S) = true›]; rfl) ⟨mainR_trial hM hoz ⟨_, hL_3⟩, off_big hoz (by omega)⟩ dX4_sacks_34
  · skip
    refine lv_bipush (v := (-2)) hx hb dX4_sacks_7 (by decide) ?_
    exact rt_ie F hr hlk hW (by unfold r_sacks; rw [‹halI w = false›]; rfl) ⟨hM, off_rf⟩ dX4_sacks_9

/-! doings -/
def dB (L : LN) (r f a : Nat) : Bool :=
  if fig r f a = 0 then decide (fig r f (a + 1) = 0 ∧ fig r f (a + 2) = 0 ∧ fig r f (a + 3) = 0)
  else if fig r f a = 1 then decide (fig r f (a + 1) = 0) && canA L (fig r f (a + 2)) (fig r f (a + 3))
  else if fig r f a = 2 then decide (fig r f (a + 1) = 0) && canS L (fig r f (a + 2)) (fig r f (a + 3))
  else if fig r f a = 3 then decide (fig r f (a + 1) = 0) && canD L (fig r f (a + 2)) (fig r f (a + 3))
  else if fig r f a = 4 then decide (fig r f (a + 1) = 0 ∧ fig r f (a + 2) = 0) && canR L (fig r f (a + 3))
  else if fig r f a = 5 then decide (fig r f (a + 1) = 0 ∧ fig r f (a + 2) = 0) && lst L (fig r f (a + 3))
  else if fig r f a = 6 then decide (fig r f (a + 1) < Ln L) && decide (10 * fig r f (a + 2) + fig r f (a + 3) ≤ Ll L (fig r f (a + 1)))
  else false
def dL (L : LN) (r f a : Nat) : LN :=
  if fig r f a = 0 then hour L
  else if fig r f a = 1 then addS L (fig r f (a + 2)) (fig r f (a + 3))
  else if fig r f a = 2 then subS L (fig r f (a + 2)) (fig r f (a + 3))
  else if fig r f a = 3 then setD L (fig r f (a + 2)) (fig r f (a + 3))
  else if fig r f a = 4 then raiseL L (fig r f (a + 3))
  else L
theorem lok_dL {L : LN} {B : Nat} (hk : lok L B) (r f a : Nat) : lok (dL L r f a) (B + 600) := by
  unfold dL
  split
  · exact lok_hour hk
  · split
    · exact lok_mono (lok_addS hk _ _) (by omega)
    · split
      · exact lok_mono (lok_subS hk _ _) (by omega)
      · split
        · exact lok_mono (lok_setD hk _ _) (by omega)
        · split
          · exact lok_raiseL hk _
          · exact lok_mono hk (by omega)
def jL (L : LN) (n r : Nat) : Nat → LN
  | 0 => L
  | i + 1 => dL (jL L n r i) r (4 * n) (4 * i)
def jF (L : LN) (n r : Nat) : Nat → Nat → Int32
  | 0, _ => -9
  | d + 1, i => if dB (jL L n r i) r (4 * n) (4 * i) then jF L n r d (i + 1) else nI i
theorem lok_jL {L : LN} {B : Nat} (hk : lok L B) (n r i : Nat) : lok (jL L n r i) (B + 600 * i) := by
  induction i with
  | zero => exact hk
  | succ i ih =>
    have := lok_dL ih r (4 * n) (4 * i)
    rw [show B + 600 * (i + 1) = B + 600 * i + 600 by omega]
    exact this
def r_judge (S : AS) (n : Int32) (x : Int64) : Int32 := if c14 n && figs x (4 * n.toNatClampNeg) then jF (AL S) n.toNatClampNeg x.toInt.toNat n.toNatClampNeg 0 else -2

set_option maxHeartbeats 4000000 in
set_option maxRecDepth 100000 in
theorem c_canBe {cx : CX} (hI : xI cx) (l : Launch) {μ : ME} {S : AS} {B : Nat} (hN : 136 ≤ xN cx) (hM : mainR cx μ S) (hA : aok S B) (hB : B < 800000) {LT : LN} {BT : Nat} (hLT : laneR cx μ 10 LT) (hkT : lok LT BT) (hBT : BT < 820000) (r f a : Nat) (hr9 : r < 9223372036854775808) (hf : f ≤ 16) (ha : a + 3 < f) : MT cx l yX4_canBe cX4_canBe 8 (some .boolean) 3 115 [.ref (xa cx 0), .long (lN r), .int (nI f), .int (nI a)] μ (Ei cx (b2 (dB LT r f a)) (fun μ1 => (∃ L1, laneR cx μ1 10 L1) ∧ (dB LT r f a = true → laneR cx μ1 10 (dL LT r f a)) ∧ off 10 7 μ μ1)) := by
  refine mt_of hI (by decide) (Nat.le_of_ble_eq_true rfl) ?_
  intro p e s m below meth c ls F hr hlk hW hl
  have hx := F.1.1
  have hb := F.1.2.1
  have hts := F.1.2.2.2.2
  obtain ⟨m0, hT, hL, -, hPa, hSe, hSl⟩ := id hM
  have hk := hA.2.1
  have hn6 := hk.1
  have h3b : 3 + 7 ≤ xN cx := by omega
  have h10b : 10 + 7 ≤ xN cx := by omega
  obtain ⟨_, _, _, _, _, _, o3, -⟩ := id hL
  obtain ⟨_, _, _, _, _, _, o10, -⟩ := id hLT
  obtain ⟨_, o1, -⟩ := id hT
  obtain ⟨_, _, o17, -⟩ := id hPa
  obtain ⟨_, _, _, o117, -⟩ := id hSe
  obtain ⟨⟨gs, o121, hgs⟩, hsl2, hsl3⟩ := id hSl
  have hl : lv_has ls 8 [(0, .ref (xa cx 0)), (1, .long (lN r)), (3, .int (nI f)), (4, .int (nI a))] := hl
  refine lv_lload_n hx hb dX4_canBe_0 rfl (lv_at hl 1 rfl) ?_
  refine lv_iload_n hx hb dX4_canBe_1 rfl (lv_at hl 2 rfl) ?_
  refine lv_iload hx hb dX4_canBe_2 (lv_at hl 3 rfl) ?_
  refine lv_iconst (v := nI 1) hx hb dX4_canBe_4 (by decide) ?_
  refine nv_add F dX4_canBe_5 ?_
  refine cl_ip (cl_runS (rest := []) F hW e_X4_170 (c_figure hI l r f (a + 1) hr9 (by omega) (by omega)) ⟨Nat.le_of_ble_eq_true rfl, Nat.le_of_ble_eq_true rfl⟩ rfl rfl hl (Nat.le_of_ble_eq_true rfl) dX4_canBe_6 ⟨Nat.zero_le _, Nat.zero_le _⟩) hW (fun H locs hW => ?_)
  refine lv_istore (lv' := [(5, .int (nI (fig r f (a + 1)))), (0, .ref (xa cx 0)), (1, .long (lN r)), (3, .int (nI f)), (4, .int (nI a))]) hx hb dX4_canBe_9 hl (by decide) rfl (fun ls hl => ?_)
  refine lv_lload_n hx hb dX4_canBe_11 rfl (lv_at hl 2 rfl) ?_
  refine lv_iload_n hx hb dX4_canBe_12 rfl (lv_at hl 3 rfl) ?_
  refine lv_iload hx hb dX4_canBe_13 (lv_at hl 4 rfl) ?_
  refine lv_iconst (v := nI 2) hx hb dX4_canBe_15 (by decide) ?_
  refine nv_add F dX4_canBe_16 ?_
  refine cl_ip (cl_runS (rest := []) F hW e_X4_170 (c_figure hI l r f (a + 2) hr9 (by omega) (by omega)) ⟨Nat.le_of_ble_eq_true rfl, Nat.le_of_ble_eq_true rfl⟩ rfl rfl hl (Nat.le_of_ble_eq_true rfl) dX4_canBe_17 ⟨Nat.zero_le _, Nat.zero_le _⟩) hW (fun H locs hW => ?_)
  refine lv_istore (lv' := [(6, .int (nI (fig r f (a + 2)))), (5, .int (nI (fig r f (a + 1)))), (0, .ref (xa cx 0)), (1, .long (lN r)), (3, .int (nI f)), (4, .int (nI a))]) hx hb dX4_canBe_20 hl (by decide) rfl (fun ls hl => ?_)
  refine lv_lload_n hx hb dX4_canBe_22 rfl (lv_at hl 3 rfl) ?_
  refine lv_iload_n hx hb dX4_canBe_23 rfl (lv_at hl 4 rfl) ?_
  refine lv_iload hx hb dX4_canBe_24 (lv_at hl 5 rfl) ?_
  refine lv_iconst (v := nI 3) hx hb dX4_canBe_26 (by decide) ?_
  refine nv_add F dX4_canBe_27 ?_
  refine cl_ip (cl_runS (rest := []) F hW e_X4_170 (c_figure hI l r f (a + 3) hr9 (by omega) (by omega)) ⟨Nat.le_of_ble_eq_true rfl, Nat.le_of_ble_eq_true rfl⟩ rfl rfl hl (Nat.le_of_ble_eq_true rfl) dX4_canBe_28 ⟨Nat.zero_le _, Nat.zero_le _⟩) hW (fun H locs hW => ?_)
  refine lv_istore (lv' := [(7, .int (nI (fig r f (a + 3)))), (6, .int (nI (fig r f (a + 2)))), (5, .int (nI (fig r f (a + 1)))), (0, .ref (xa cx 0)), (1, .long (lN r)), (3, .int (nI f)), (4, .int (nI a))]) hx hb dX4_canBe_31 hl (by decide) rfl (fun ls hl => ?_)
  refine lv_lload_n hx hb dX4_canBe_33 rfl (lv_at hl 4 rfl) ?_
  refine lv_iload_n hx hb dX4_canBe_34 rfl (lv_at hl 5 rfl) ?_
  refine lv_iload hx hb dX4_canBe_35 (lv_at hl 6 rfl) ?_
  refine cl_ip (cl_runS (rest := []) F hW e_X4_170 (c_figure hI l r f a hr9 (by omega) (by omega)) ⟨Nat.le_of_ble_eq_true rfl, Nat.le_of_ble_eq_true rfl⟩ rfl rfl hl (Nat.le_of_ble_eq_true rfl) dX4_canBe_37 ⟨Nat.zero_le _, Nat.zero_le _⟩) hW (fun H locs hW => ?_)
  obtain ⟨g, eg⟩ : ∃ z, z = fig r f a := ⟨_, rfl⟩
  have hg10 := fig_lt r f a
  rw [← eg] at hg10 ⊢
  rcases (show g = 0 ∨ g = 1 ∨ g = 2 ∨ g = 3 ∨ g = 4 ∨ g = 5 ∨ g = 6 ∨ g = 7 ∨ g = 8 ∨ g = 9 by omega) with rfl | rfl | rfl | rfl | rfl | rfl | rfl | rfl | rfl | rfl
  · skip
    refine lv_tableIn (tgt := 84) hx hb dX4_canBe_40 (by decide) (by decide) rfl (by decide) ?_
    refine lv_iload hx hb dX4_canBe_84 (lv_at hl 2 rfl) ?_
    refine nv_zne (tgt := 113) F (by have := fig_lt r f (a + 1); have := fig_lt r f (a + 2); have := fig_lt r f (a + 3); omega) dX4_canBe_86 (by decide) (fun c_1 => ?_) (fun c_1 => ?_)
    · skip
      refine lv_iconst (v := nI 0) hx hb dX4_canBe_113 (by decide) ?_
      have hd : dB LT r f a = false := by
        unfold dB
        rw [if_pos (by omega)]
        exact decide_eq_false (by omega)
      exact rt_ze F hr hlk hW (by rw [hd]; rfl) ⟨⟨_, hLT⟩, fun z => absurd z (by rw [hd]; decide), off_rf⟩ dX4_canBe_114
    · skip
      refine lv_iload hx hb dX4_canBe_89 (lv_at hl 1 rfl) ?_
      refine nv_zne (tgt := 113) F (by have := fig_lt r f (a + 1); have := fig_lt r f (a + 2); have := fig_lt r f (a + 3); omega) dX4_canBe_91 (by decide) (fun c_2 => ?_) (fun c_2 => ?_)
      · skip
        refine lv_iconst (v := nI 0) hx hb dX4_canBe_113 (by decide) ?_
        have hd : dB LT r f a = false := by
          unfold dB
          rw [if_pos (by omega)]
          exact decide_eq_false (by omega)
        exact rt_ze F hr hlk hW (by rw [hd]; rfl) ⟨⟨_, hLT⟩, fun z => absurd z (by rw [hd]; decide), off_rf⟩ dX4_canBe_114
      · skip
        refine lv_iload hx hb dX4_canBe_94 (lv_at hl 0 rfl) ?_
        refine nv_zne (tgt := 113) F (by have := fig_lt r f (a + 1); have := fig_lt r f (a + 2); have := fig_lt r f (a + 3); omega) dX4_canBe_96 (by decide) (fun c_3 => ?_) (fun c_3 => ?_)
        · skip
          refine lv_iconst (v := nI 0) hx hb dX4_canBe_113 (by decide) ?_
          have hd : dB LT r f a = false := by
            unfold dB
            rw [if_pos (by omega)]
            exact decide_eq_false (by omega)
          exact rt_ze F hr hlk hW (by rw [hd]; rfl) ⟨⟨_, hLT⟩, fun z => absurd z (by rw [hd]; decide), off_rf⟩ dX4_canBe_114
        · skip
          refine lv_aload_n hx hb dX4_canBe_99 rfl (lv_at hl 3 rfl) ?_
          refine nv_get F hW (by omega) m0 rfl iX4 2 (by decide) tw_150 rfl dX4_canBe_100 ?_
          refine cl_ie (cl_run (rest := []) F hW e_X4_103 (c_passHour hI l h10b hLT hkT (by omega)) ⟨Nat.le_of_ble_eq_true rfl, Nat.le_of_ble_eq_true rfl⟩ (by omega) o10 rfl rfl rfl hl (Nat.le_of_ble_eq_true rfl) dX4_canBe_103 ⟨Nat.zero_le _, Nat.zero_le _⟩) hW (fun μ4 H locs q_4 hW => ?_)
          refine nv_zlt (tgt := 113) F (by have := pop_le (hF LT); omega) dX4_canBe_106 (by decide) (fun c_5 => ?_) (fun c_5 => ?_)
          · skip
            exact absurd c_5 (by omega)
          · skip
            refine lv_iconst (v := nI 1) hx hb dX4_canBe_109 (by decide) ?_
            refine lv_goto (tgt := 114) hx hb dX4_canBe_110 (by decide) ?_
            have hd : dB LT r f a = true := by
              unfold dB
              rw [if_pos (by omega)]
              exact decide_eq_true (by omega)
            exact rt_ze F hr hlk hW (by rw [hd]; rfl) ⟨⟨_, q_4.1⟩, fun _ => by unfold dL; rw [if_pos (by omega)]; exact q_4.1, q_4.2⟩ dX4_canBe_114
  · skip
    refine lv_tableIn (tgt := 115) hx hb dX4_canBe_40 (by decide) (by decide) rfl (by decide) ?_
    refine lv_iload hx hb dX4_canBe_115 (lv_at hl 2 rfl) ?_
    refine nv_zne (tgt := 138) F (by have := fig_lt r f (a + 1); have := fig_lt r f (a + 2); have := fig_lt r f (a + 3); omega) dX4_canBe_117 (by decide) (fun c_6 => ?_) (fun c_6 => ?_)
    · skip
      refine lv_iconst (v := nI 0) hx hb dX4_canBe_138 (by decide) ?_
      have hd : dB LT r f a = false := by
        unfold dB
        rw [if_neg (by omega), if_pos (by omega)]
        first | (rw [decide_eq_false (by omega)]; rfl) | (rw [decide_eq_true (by omega)]; assumption)
      exact rt_ze F hr hlk hW (by rw [hd]; rfl) ⟨⟨_, hLT⟩, fun z => absurd z (by rw [hd]; decide), off_rf⟩ dX4_canBe_139
    · skip
      refine lv_aload_n hx hb dX4_canBe_120 rfl (lv_at hl 3 rfl) ?_
      refine nv_get F hW (by omega) m0 rfl iX4 2 (by decide) tw_150 rfl dX4_canBe_121 ?_
      refine lv_iload hx hb dX4_canBe_124 (lv_at hl 1 rfl) ?_
      refine lv_iload hx hb dX4_canBe_126 (lv_at hl 0 rfl) ?_
      refine cl_ie (cl_run (rest := []) F hW e_X4_113 (c_addStones hI l h10b hLT hkT (fig r f (a + 2)) (fig r f (a + 3)) (by have := fig_lt r f (a + 1); have := fig_lt r f (a + 2); have := fig_lt r f (a + 3); omega) (by have := fig_lt r f (a + 1); have := fig_lt r f (a + 2); have := fig_lt r f (a + 3); omega)) ⟨Nat.le_of_ble_eq_true rfl, Nat.le_of_ble_eq_true rfl⟩ (by omega) o10 rfl rfl rfl hl (Nat.le_of_ble_eq_true rfl) dX4_canBe_128 ⟨Nat.zero_le _, Nat.zero_le _⟩) hW (fun μ7 H locs q_7 hW => ?_)
      refine nv_beq (tgt := 138) F dX4_canBe_131 (by decide) (fun c_8 => ?_) (fun c_8 => ?_)
      · skip
        refine lv_iconst (v := nI 0) hx hb dX4_canBe_138 (by decide) ?_
        have hd : dB LT r f a = false := by
          unfold dB
          rw [if_neg (by omega), if_pos (by omega)]
          first | (rw [decide_eq_false (by omega)]; rfl) | (rw [decide_eq_true (by omega)]; assumption)
        exact rt_ze F hr hlk hW (by rw [hd]; rfl) ⟨⟨_, q_7.1⟩, fun z => absurd z (by rw [hd]; decide), q_7.2⟩ dX4_canBe_139
      · skip
        refine lv_iconst (v := nI 1) hx hb dX4_canBe_134 (by decide) ?_
        refine lv_goto (tgt := 139) hx hb dX4_canBe_135 (by decide) ?_
        have hd : dB LT r f a = true := by
          unfold dB
          rw [if_neg (by omega), if_pos (by omega)]
          first | (rw [decide_eq_false (by omega)]; rfl) | (rw [decide_eq_true (by omega)]; assumption)
        exact rt_ze F hr hlk hW (by rw [hd]; rfl) ⟨⟨_, q_7.1⟩, fun _ => by unfold dL; rw [if_neg (by omega), if_pos (by omega)]; exact q_7.1, q_7.2⟩ dX4_canBe_139
  · skip
    refine lv_tableIn (tgt := 140) hx hb dX4_canBe_40 (by decide) (by decide) rfl (by decide) ?_
    refine lv_iload hx hb dX4_canBe_140 (lv_at hl 2 rfl) ?_
    refine nv_zne (tgt := 163) F (by have := fig_lt r f (a + 1); have := fig_lt r f (a + 2); have := fig_lt r f (a + 3); omega) dX4_canBe_142 (by decide) (fun c_9 => ?_) (fun c_9 => ?_)
    · skip
      refine lv_iconst (v := nI 0) hx hb dX4_canBe_163 (by decide) ?_
      have hd : dB LT r f a = false := by
        unfold dB
        rw [if_neg (by omega), if_neg (by omega), if_pos (by omega)]
        first | (rw [decide_eq_false (by omega)]; rfl) | (rw [decide_eq_true (by omega)]; assumption)
      exact rt_ze F hr hlk hW (by rw [hd]; rfl) ⟨⟨_, hLT⟩, fun z => absurd z (by rw [hd]; decide), off_rf⟩ dX4_canBe_164
    · skip
      refine lv_aload_n hx hb dX4_canBe_145 rfl (lv_at hl 3 rfl) ?_
      refine nv_get F hW (by omega) m0 rfl iX4 2 (by decide) tw_150 rfl dX4_canBe_146 ?_
      refine lv_iload hx hb dX4_canBe_149 (lv_at hl 1 rfl) ?_
      refine lv_iload hx hb dX4_canBe_151 (lv_at hl 0 rfl) ?_
      refine cl_ie (cl_run (rest := []) F hW e_X4_119 (c_removeStones hI l h10b hLT hkT (fig r f (a + 2)) (fig r f (a + 3)) (by have := fig_lt r f (a + 1); have := fig_lt r f (a + 2); have := fig_lt r f (a + 3); omega) (by have := fig_lt r f (a + 1); have := fig_lt r f (a + 2); have := fig_lt r f (a + 3); omega)) ⟨Nat.le_of_ble_eq_true rfl, Nat.le_of_ble_eq_true rfl⟩ (by omega) o10 rfl rfl rfl hl (Nat.le_of_ble_eq_true rfl) dX4_canBe_153 ⟨Nat.zero_le _, Nat.zero_le _⟩) hW (fun μ10 H locs q_10 hW => ?_)
      refine nv_beq (tgt := 163) F dX4_canBe_156 (by decide) (fun c_11 => ?_) (fun c_11 => ?_)
      · skip
        refine lv_iconst (v := nI 0) hx hb dX4_canBe_163 (by decide) ?_
        have hd : dB LT r f a = false := by
          unfold dB
          rw [if_neg (by omega), if_neg (by omega), if_pos (by omega)]
          first | (rw [decide_eq_false (by omega)]; rfl) | (rw [decide_eq_true (by omega)]; assumption)
        exact rt_ze F hr hlk hW (by rw [hd]; rfl) ⟨⟨_, q_10.1⟩, fun z => absurd z (by rw [hd]; decide), q_10.2⟩ dX4_canBe_164
      · skip
        refine lv_iconst (v := nI 1) hx hb dX4_canBe_159 (by decide) ?_
        refine lv_goto (tgt := 164) hx hb dX4_canBe_160 (by decide) ?_
        have hd : dB LT r f a = true := by
          unfold dB
          rw [if_neg (by omega), if_neg (by omega), if_pos (by omega)]
          first | (rw [decide_eq_false (by omega)]; rfl) | (rw [decide_eq_true (by omega)]; assumption)
        exact rt_ze F hr hlk hW (by rw [hd]; rfl) ⟨⟨_, q_10.1⟩, fun _ => by unfold dL; rw [if_neg (by omega), if_neg (by omega), if_pos (by omega)]; exact q_10.1, q_10.2⟩ dX4_canBe_164
  · skip
    refine lv_tableIn (tgt := 165) hx hb dX4_canBe_40 (by decide) (by decide) rfl (by decide) ?_
    refine lv_iload hx hb dX4_canBe_165 (lv_at hl 2 rfl) ?_
    refine nv_zne (tgt := 188) F (by have := fig_lt r f (a + 1); have := fig_lt r f (a + 2); have := fig_lt r f (a + 3); omega) dX4_canBe_167 (by decide) (fun c_12 => ?_) (fun c_12 => ?_)
    · skip
      refine lv_iconst (v := nI 0) hx hb dX4_canBe_188 (by decide) ?_
      have hd : dB LT r f a = false := by
        unfold dB
        rw [if_neg (by omega), if_neg (by omega), if_neg (by omega), if_pos (by omega)]
        first | (rw [decide_eq_false (by omega)]; rfl) | (rw [decide_eq_true (by omega)]; assumption)
      exact rt_ze F hr hlk hW (by rw [hd]; rfl) ⟨⟨_, hLT⟩, fun z => absurd z (by rw [hd]; decide), off_rf⟩ dX4_canBe_189
    · skip
      refine lv_aload_n hx hb dX4_canBe_170 rfl (lv_at hl 3 rfl) ?_
      refine nv_get F hW (by omega) m0 rfl iX4 2 (by decide) tw_150 rfl dX4_canBe_171 ?_
      refine lv_iload hx hb dX4_canBe_174 (lv_at hl 1 rfl) ?_
      refine lv_iload hx hb dX4_canBe_176 (lv_at hl 0 rfl) ?_
      refine cl_ie (cl_run (rest := []) F hW e_X4_125 (c_writeDeed hI l h10b hLT hkT (fig r f (a + 2)) (fig r f (a + 3)) (by have := fig_lt r f (a + 1); have := fig_lt r f (a + 2); have := fig_lt r f (a + 3); omega) (by have := fig_lt r f (a + 1); have := fig_lt r f (a + 2); have := fig_lt r f (a + 3); omega)) ⟨Nat.le_of_ble_eq_true rfl, Nat.le_of_ble_eq_true rfl⟩ (by omega) o10 rfl rfl rfl hl (Nat.le_of_ble_eq_true rfl) dX4_canBe_178 ⟨Nat.zero_le _, Nat.zero_le _⟩) hW (fun μ13 H locs q_13 hW => ?_)
      refine nv_beq (tgt := 188) F dX4_canBe_181 (by decide) (fun c_14 => ?_) (fun c_14 => ?_)
      · skip
        refine lv_iconst (v := nI 0) hx hb dX4_canBe_188 (by decide) ?_
        have hd : dB LT r f a = false := by
          unfold dB
          rw [if_neg (by omega), if_neg (by omega), if_neg (by omega), if_pos (by omega)]
          first | (rw [decide_eq_false (by omega)]; rfl) | (rw [decide_eq_true (by omega)]; assumption)
        exact rt_ze F hr hlk hW (by rw [hd]; rfl) ⟨⟨_, q_13.1⟩, fun z => absurd z (by rw [hd]; decide), q_13.2⟩ dX4_canBe_189
      · skip
        refine lv_iconst (v := nI 1) hx hb dX4_canBe_184 (by decide) ?_
        refine lv_goto (tgt := 189) hx hb dX4_canBe_185 (by decide) ?_
        have hd : dB LT r f a = true := by
          unfold dB
          rw [if_neg (by omega), if_neg (by omega), if_neg (by omega), if_pos (by omega)]
          first | (rw [decide_eq_false (by omega)]; rfl) | (rw [decide_eq_true (by omega)]; assumption)
        exact rt_ze F hr hlk hW (by rw [hd]; rfl) ⟨⟨_, q_13.1⟩, fun _ => by unfold dL; rw [if_neg (by omega), if_neg (by omega), if_neg (by omega), if_pos (by omega)]; exact q_13.1, q_13.2⟩ dX4_canBe_189
  · skip
    refine lv_tableIn (tgt := 190) hx hb dX4_canBe_40 (by decide) (by decide) rfl (by decide) ?_
    refine lv_iload hx hb dX4_canBe_190 (lv_at hl 2 rfl) ?_
    refine nv_zne (tgt := 216) F (by have := fig_lt r f (a + 1); have := fig_lt r f (a + 2); have := fig_lt r f (a + 3); omega) dX4_canBe_192 (by decide) (fun c_15 => ?_) (fun c_15 => ?_)
    · skip
      refine lv_iconst (v := nI 0) hx hb dX4_canBe_216 (by decide) ?_
      have hd : dB LT r f a = false := by
        unfold dB
        rw [if_neg (by omega), if_neg (by omega), if_neg (by omega), if_neg (by omega), if_pos (by omega)]
        first | (rw [decide_eq_false (by omega)]; rfl) | (rw [decide_eq_true (by omega)]; assumption)
      exact rt_ze F hr hlk hW (by rw [hd]; rfl) ⟨⟨_, hLT⟩, fun z => absurd z (by rw [hd]; decide), off_rf⟩ dX4_canBe_217
    · skip
      refine lv_iload hx hb dX4_canBe_195 (lv_at hl 1 rfl) ?_
      refine nv_zne (tgt := 216) F (by have := fig_lt r f (a + 1); have := fig_lt r f (a + 2); have := fig_lt r f (a + 3); omega) dX4_canBe_197 (by decide) (fun c_16 => ?_) (fun c_16 => ?_)
      · skip
        refine lv_iconst (v := nI 0) hx hb dX4_canBe_216 (by decide) ?_
        have hd : dB LT r f a = false := by
          unfold dB
          rw [if_neg (by omega), if_neg (by omega), if_neg (by omega), if_neg (by omega), if_pos (by omega)]
          first | (rw [decide_eq_false (by omega)]; rfl) | (rw [decide_eq_true (by omega)]; assumption)
        exact rt_ze F hr hlk hW (by rw [hd]; rfl) ⟨⟨_, hLT⟩, fun z => absurd z (by rw [hd]; decide), off_rf⟩ dX4_canBe_217
      · skip
        refine lv_aload_n hx hb dX4_canBe_200 rfl (lv_at hl 3 rfl) ?_
        refine nv_get F hW (by omega) m0 rfl iX4 2 (by decide) tw_150 rfl dX4_canBe_201 ?_
        refine lv_iload hx hb dX4_canBe_204 (lv_at hl 0 rfl) ?_
        refine cl_ie (cl_run (rest := []) F hW e_X4_128 (c_raise hI l h10b hLT hkT (fig r f (a + 3)) (by have := fig_lt r f (a + 1); have := fig_lt r f (a + 2); have := fig_lt r f (a + 3); omega)) ⟨Nat.le_of_ble_eq_true rfl, Nat.le_of_ble_eq_true rfl⟩ (by omega) o10 rfl rfl rfl hl (Nat.le_of_ble_eq_true rfl) dX4_canBe_206 ⟨Nat.zero_le _, Nat.zero_le _⟩) hW (fun μ17 H locs q_17 hW => ?_)
        refine nv_beq (tgt := 216) F dX4_canBe_209 (by decide) (fun c_18 => ?_) (fun c_18 => ?_)
        · skip
          refine lv_iconst (v := nI 0) hx hb dX4_canBe_216 (by decide) ?_
          have hd : dB LT r f a = false := by
            unfold dB
            rw [if_neg (by omega), if_neg (by omega), if_neg (by omega), if_neg (by omega), if_pos (by omega)]
            first | (rw [decide_eq_false (by omega)]; rfl) | (rw [decide_eq_true (by omega)]; assumption)
          exact rt_ze F hr hlk hW (by rw [hd]; rfl) ⟨⟨_, q_17.1⟩, fun z => absurd z (by rw [hd]; decide), q_17.2⟩ dX4_canBe_217
        · skip
          refine lv_iconst (v := nI 1) hx hb dX4_canBe_212 (by decide) ?_
          refine lv_goto (tgt := 217) hx hb dX4_canBe_213 (by decide) ?_
          have hd : dB LT r f a = true := by
            unfold dB
            rw [if_neg (by omega), if_neg (by omega), if_neg (by omega), if_neg (by omega), if_pos (by omega)]
            first | (rw [decide_eq_false (by omega)]; rfl) | (rw [decide_eq_true (by omega)]; assumption)
          exact rt_ze F hr hlk hW (by rw [hd]; rfl) ⟨⟨_, q_17.1⟩, fun _ => by unfold dL; rw [if_neg (by omega), if_neg (by omega), if_neg (by omega), if_neg (by omega), if_pos (by omega)]; exact q_17.1, q_17.2⟩ dX4_canBe_217
  · skip
    refine lv_tableIn (tgt := 218) hx hb dX4_canBe_40 (by decide) (by decide) rfl (by decide) ?_
    refine lv_iload hx hb dX4_canBe_218 (lv_at hl 2 rfl) ?_
    refine nv_zne (tgt := 244) F (by have := fig_lt r f (a + 1); have := fig_lt r f (a + 2); have := fig_lt r f (a + 3); omega) dX4_canBe_220 (by decide) (fun c_19 => ?_) (fun c_19 => ?_)
    · skip
      refine lv_iconst (v := nI 0) hx hb dX4_canBe_244 (by decide) ?_
      have hd : dB LT r f a = false := by
        unfold dB
        rw [if_neg (by omega), if_neg (by omega), if_neg (by omega), if_neg (by omega), if_neg (by omega), if_pos (by omega)]
        first | (rw [decide_eq_false (by omega)]; rfl) | (rw [decide_eq_true (by omega)]; assumption)
      exact rt_ze F hr hlk hW (by rw [hd]; rfl) ⟨⟨_, hLT⟩, fun z => absurd z (by rw [hd]; decide), off_rf⟩ dX4_canBe_245
    · skip
      refine lv_iload hx hb dX4_canBe_223 (lv_at hl 1 rfl) ?_
      refine nv_zne (tgt := 244) F (by have := fig_lt r f (a + 1); have := fig_lt r f (a + 2); have := fig_lt r f (a + 3); omega) dX4_canBe_225 (by decide) (fun c_20 => ?_) (fun c_20 => ?_)
      · skip
        refine lv_iconst (v := nI 0) hx hb dX4_canBe_244 (by decide) ?_
        have hd : dB LT r f a = false := by
          unfold dB
          rw [if_neg (by omega), if_neg (by omega), if_neg (by omega), if_neg (by omega), if_neg (by omega), if_pos (by omega)]
          first | (rw [decide_eq_false (by omega)]; rfl) | (rw [decide_eq_true (by omega)]; assumption)
        exact rt_ze F hr hlk hW (by rw [hd]; rfl) ⟨⟨_, hLT⟩, fun z => absurd z (by rw [hd]; decide), off_rf⟩ dX4_canBe_245
      · skip
        refine lv_aload_n hx hb dX4_canBe_228 rfl (lv_at hl 3 rfl) ?_
        refine nv_get F hW (by omega) m0 rfl iX4 2 (by decide) tw_150 rfl dX4_canBe_229 ?_
        refine lv_iload hx hb dX4_canBe_232 (lv_at hl 0 rfl) ?_
        refine cl_ip (cl_run (rest := []) F hW e_X4_87 (c_standsN hI l h10b hLT hkT (fig r f (a + 3)) (by have := fig_lt r f (a + 1); have := fig_lt r f (a + 2); have := fig_lt r f (a + 3); omega)) ⟨Nat.le_of_ble_eq_true rfl, Nat.le_of_ble_eq_true rfl⟩ (by omega) o10 rfl rfl rfl hl (Nat.le_of_ble_eq_true rfl) dX4_canBe_234 ⟨Nat.zero_le _, Nat.zero_le _⟩) hW (fun H locs hW => ?_)
        refine nv_beq (tgt := 244) F dX4_canBe_237 (by decide) (fun c_21 => ?_) (fun c_21 => ?_)
        · skip
          refine lv_iconst (v := nI 0) hx hb dX4_canBe_244 (by decide) ?_
          have hd : dB LT r f a = false := by
            unfold dB
            rw [if_neg (by omega), if_neg (by omega), if_neg (by omega), if_neg (by omega), if_neg (by omega), if_pos (by omega)]
            first | (rw [decide_eq_false (by omega)]; rfl) | (rw [decide_eq_true (by omega)]; assumption)
          exact rt_ze F hr hlk hW (by rw [hd]; rfl) ⟨⟨_, hLT⟩, fun z => absurd z (by rw [hd]; decide), off_rf⟩ dX4_canBe_245
        · skip
          refine lv_iconst (v := nI 1) hx hb dX4_canBe_240 (by decide) ?_
          refine lv_goto (tgt := 245) hx hb dX4_canBe_241 (by decide) ?_
          have hd : dB LT r f a = true := by
            unfold dB
            rw [if_neg (by omega), if_neg (by omega), if_neg (by omega), if_neg (by omega), if_neg (by omega), if_pos (by omega)]
            first | (rw [decide_eq_false (by omega)]; rfl) | (rw [decide_eq_true (by omega)]; assumption)
          exact rt_ze F hr hlk hW (by rw [hd]; rfl) ⟨⟨_, hLT⟩, fun _ => by unfold dL; rw [if_neg (by omega), if_neg (by omega), if_neg (by omega), if_neg (by omega), if_neg (by omega)]; exact hLT, off_rf⟩ dX4_canBe_245
  · skip
    refine lv_tableIn (tgt := 246) hx hb dX4_canBe_40 (by decide) (by decide) rfl (by decide) ?_
    refine lv_aload_n hx hb dX4_canBe_246 rfl (lv_at hl 3 rfl) ?_
    refine nv_get F hW (by omega) m0 rfl iX4 2 (by decide) tw_150 rfl dX4_canBe_247 ?_
    refine lv_iload hx hb dX4_canBe_250 (lv_at hl 2 rfl) ?_
    refine cl_ip (cl_run (rest := []) F hW e_X4_71 (c_hasN hI l h10b hLT hkT (fig r f (a + 1)) (by have := fig_lt r f (a + 1); have := fig_lt r f (a + 2); have := fig_lt r f (a + 3); omega)) ⟨Nat.le_of_ble_eq_true rfl, Nat.le_of_ble_eq_true rfl⟩ (by omega) o10 rfl rfl rfl hl (Nat.le_of_ble_eq_true rfl) dX4_canBe_252 ⟨Nat.zero_le _, Nat.zero_le _⟩) hW (fun H locs hW => ?_)
    refine nv_beq (tgt := 282) F dX4_canBe_255 (by decide) (fun c_22 => ?_) (fun c_22 => ?_)
    · skip
      refine lv_iconst (v := nI 0) hx hb dX4_canBe_282 (by decide) ?_
      have hd : dB LT r f a = false := by
        unfold dB
        rw [if_neg (by omega), if_neg (by omega), if_neg (by omega), if_neg (by omega), if_neg (by omega), if_neg (by omega), if_pos (by omega)]
        first | (rw [‹decide (fig r f (a + 1) < Ln LT) = false›]; rfl) | (rw [‹decide (fig r f (a + 1) < Ln LT) = true›]; exact decide_eq_false (by omega))
      exact rt_ze F hr hlk hW (by rw [hd]; rfl) ⟨⟨_, hLT⟩, fun z => absurd z (by rw [hd]; decide), off_rf⟩ dX4_canBe_283
    · skip
      refine lv_aload_n hx hb dX4_canBe_258 rfl (lv_at hl 3 rfl) ?_
      refine nv_get F hW (by omega) m0 rfl iX4 2 (by decide) tw_150 rfl dX4_canBe_259 ?_
      refine lv_iload hx hb dX4_canBe_262 (lv_at hl 2 rfl) ?_
      refine cl_ip (cl_run (rest := []) F hW e_X4_90 (c_loadOf hI l h10b hLT hkT (fig r f (a + 1)) (of_decide_eq_true ‹decide (fig r f (a + 1) < Ln LT) = true›)) ⟨Nat.le_of_ble_eq_true rfl, Nat.le_of_ble_eq_true rfl⟩ (by omega) o10 rfl rfl rfl hl (Nat.le_of_ble_eq_true rfl) dX4_canBe_264 ⟨Nat.zero_le _, Nat.zero_le _⟩) hW (fun H locs hW => ?_)
      refine lv_bipush (v := nI 10) hx hb dX4_canBe_267 (by decide) ?_
      refine lv_iload hx hb dX4_canBe_269 (lv_at hl 1 rfl) ?_
      refine nv_mul F dX4_canBe_271 ?_
      refine lv_iload hx hb dX4_canBe_272 (lv_at hl 0 rfl) ?_
      refine nv_add F dX4_canBe_274 ?_
      refine nv_clt (tgt := 282) F (by have := lok_l hkT (fig r f (a + 1)); omega) (by have := fig_lt r f (a + 2); have := fig_lt r f (a + 3); omega) dX4_canBe_275 (by decide) (fun c_23 => ?_) (fun c_23 => ?_)
      · skip
        refine lv_iconst (v := nI 0) hx hb dX4_canBe_282 (by decide) ?_
        have hd : dB LT r f a = false := by
          unfold dB
          rw [if_neg (by omega), if_neg (by omega), if_neg (by omega), if_neg (by omega), if_neg (by omega), if_neg (by omega), if_pos (by omega)]
          first | (rw [‹decide (fig r f (a + 1) < Ln LT) = false›]; rfl) | (rw [‹decide (fig r f (a + 1) < Ln LT) = true›]; exact decide_eq_false (by omega))
        exact rt_ze F hr hlk hW (by rw [hd]; rfl) ⟨⟨_, hLT⟩, fun z => absurd z (by rw [hd]; decide), off_rf⟩ dX4_canBe_283
      · skip
        refine lv_iconst (v := nI 1) hx hb dX4_canBe_278 (by decide) ?_
        refine lv_goto (tgt := 283) hx hb dX4_canBe_279 (by decide) ?_
        have hd : dB LT r f a = true := by
          unfold dB
          rw [if_neg (by omega), if_neg (by omega), if_neg (by omega), if_neg (by omega), if_neg (by omega), if_neg (by omega), if_pos (by omega)]
          first | (rw [‹decide (fig r f (a + 1) < Ln LT) = false›]; rfl) | (rw [‹decide (fig r f (a + 1) < Ln LT) = true›]; exact decide_eq_true (by omega))
        exact rt_ze F hr hlk hW (by rw [hd]; rfl) ⟨⟨_, hLT⟩, fun _ => by unfold dL; rw [if_neg (by omega), if_neg (by omega), if_neg (by omega), if_neg (by omega), if_neg (by omega)]; exact hLT, off_rf⟩ dX4_canBe_283
  · skip
    refine lv_tableOut (tgt := 284) hx hb dX4_canBe_40 (by decide) (by decide) ?_
    refine lv_iconst (v := nI 0) hx hb dX4_canBe_284 (by decide) ?_
    have hd : dB LT r f a = false := by
      unfold dB
      rw [if_neg (by omega), if_neg (by omega), if_neg (by omega), if_neg (by omega), if_neg (by omega), if_neg (by omega), if_neg (by omega)]
    exact rt_ze F hr hlk hW (by rw [hd]; rfl) ⟨⟨_, hLT⟩, fun z => absurd z (by rw [hd]; decide), off_rf⟩ dX4_canBe_285
  · skip
    refine lv_tableOut (tgt := 284) hx hb dX4_canBe_40 (by decide) (by decide) ?_
    refine lv_iconst (v := nI 0) hx hb dX4_canBe_284 (by decide) ?_
    have hd : dB LT r f a = false := by
      unfold dB
      rw [if_neg (by omega), if_neg (by omega), if_neg (by omega), if_neg (by omega), if_neg (by omega), if_neg (by omega), if_neg (by omega)]
    exact rt_ze F hr hlk hW (by rw [hd]; rfl) ⟨⟨_, hLT⟩, fun z => absurd z (by rw [hd]; decide), off_rf⟩ dX4_canBe_285
  · skip
    refine lv_tableOut (tgt := 284) hx hb dX4_canBe_40 (by decide) (by decide) ?_
    refine lv_iconst (v := nI 0) hx hb dX4_canBe_284 (by decide) ?_
    have hd : dB LT r f a = false := by
      unfold dB
      rw [if_neg (by omega), if_neg (by omega), if_neg (by omega), if_neg (by omega), if_neg (by omega), if_neg (by omega), if_neg (by omega)]
    exact rt_ze F hr hlk hW (by rw [hd]; rfl) ⟨⟨_, hLT⟩, fun z => absurd z (by rw [hd]; decide), off_rf⟩ dX4_canBe_285

set_option maxHeartbeats 4000000 in
set_option maxRecDepth 100000 in
theorem k_judge {cx : CX} (hI : xI cx) (l : Launch) {μ : ME} {S : AS} {B : Nat} (hN : 136 ≤ xN cx) (hM : mainR cx μ S) (hA : aok S B) (hB : B < 800000) (n : Int32) (x : Int64) : MT cx l yX4_judge cX4_judge 5 (some .int) 4 142 [.ref (xa cx 0), .int n, .long (x)] μ (Ei cx (r_judge S n x) (fun μ1 => mainR cx μ1 S ∧ off 0 136 μ μ1)) := by
  refine mt_of hI (by decide) (Nat.le_of_ble_eq_true rfl) ?_
  intro p e s m below meth c ls F hr hlk hW hl
  have hx := F.1.1
  have hb := F.1.2.1
  have hts := F.1.2.2.2.2
  obtain ⟨m0, hT, hL, ⟨LT, hLT⟩, hPa, hSe, hSl⟩ := id hM
  have hk := hA.2.1
  have hn6 := hk.1
  have h3b : 3 + 7 ≤ xN cx := by omega
  have h10b : 10 + 7 ≤ xN cx := by omega
  obtain ⟨_, _, _, _, _, _, o3, -⟩ := id hL
  obtain ⟨_, _, _, _, _, _, o10, -⟩ := id hLT
  obtain ⟨_, o1, -⟩ := id hT
  obtain ⟨_, _, o17, -⟩ := id hPa
  obtain ⟨_, _, _, o117, -⟩ := id hSe
  obtain ⟨⟨gs, o121, hgs⟩, hsl2, hsl3⟩ := id hSl
  have hl : lv_has ls 5 [(0, .ref (xa cx 0)), (1, .int n), (2, .long (x))] := hl
  refine lv_iload_n hx hb dX4_judge_0 rfl (lv_at hl 1 rfl) ?_
  refine lv_iconst (v := nI 1) hx hb dX4_judge_1 (by decide) ?_
  refine lv_icmp_lt (tgt := 20) hx hb dX4_judge_2 (by decide) (fun c_1 => ?_) (fun c_1 => ?_)
  · skip
    refine lv_bipush (v := (-2)) hx hb dX4_judge_20 (by decide) ?_
    exact rt_ie F hr hlk hW (by unfold r_judge; rw [show (c14 _ && figs x _) = false by first | (rw [c14_lo (by assumption)]; rfl) | (rw [c14_hi (by assumption)]; rfl) | (rw [nI_clamp (by omega), ‹figs x (4 * mm) = false›, Bool.and_false])]; rfl) ⟨hM, off_rf⟩ dX4_judge_22
  · skip
    refine lv_iload_n hx hb dX4_judge_5 rfl (lv_at hl 1 rfl) ?_
    refine lv_iconst (v := nI 4) hx hb dX4_judge_6 (by decide) ?_
    refine lv_icmp_gt (tgt := 20) hx hb dX4_judge_7 (by decide) (fun c_2 => ?_) (fun c_2 => ?_)
    · skip
      refine lv_bipush (v := (-2)) hx hb dX4_judge_20 (by decide) ?_
      exact rt_ie F hr hlk hW (by unfold r_judge; rw [show (c14 _ && figs x _) = false by first | (rw [c14_lo (by assumption)]; rfl) | (rw [c14_hi (by assumption)]; rfl) | (rw [nI_clamp (by omega), ‹figs x (4 * mm) = false›, Bool.and_false])]; rfl) ⟨hM, off_rf⟩ dX4_judge_22
    · skip
      obtain ⟨mm, hm1, hm4, rfl⟩ := c14_of (c14_in c_1 c_2)
      refine lv_lload_n hx hb dX4_judge_10 rfl (lv_at hl 2 rfl) ?_
      refine lv_iconst (v := nI 4) hx hb dX4_judge_11 (by decide) ?_
      refine lv_iload_n hx hb dX4_judge_12 rfl (lv_at hl 1 rfl) ?_
      refine nv_mul F dX4_judge_13 ?_
      refine cl_ip (cl_runS (rest := []) F hW e_X4_166 (c_hasFigures hI l ((x)) (4 * mm) (by omega)) ⟨Nat.le_of_ble_eq_true rfl, Nat.le_of_ble_eq_true rfl⟩ rfl rfl hl (Nat.le_of_ble_eq_true rfl) dX4_judge_14 ⟨Nat.zero_le _, Nat.zero_le _⟩) hW (fun H locs hW => ?_)
      refine nv_bne (tgt := 23) F dX4_judge_17 (by decide) (fun c_3 => ?_) (fun c_3 => ?_)
      · skip
        have hfg : figs x (4 * mm) = true := c_3
        obtain ⟨r, hr9, rfl⟩ := figs_get hfg
        refine lv_aload_n hx hb dX4_judge_23 rfl (lv_at hl 0 rfl) ?_
        refine nv_get F hW (by omega) m0 rfl iX4 2 (by decide) tw_150 rfl dX4_judge_24 ?_
        refine lv_aload_n hx hb dX4_judge_27 rfl (lv_at hl 0 rfl) ?_
        refine nv_get F hW (by omega) m0 rfl iX4 1 (by decide) tw_149 rfl dX4_judge_28 ?_
        refine cl_v (cl_run (rest := []) F hW e_X4_138 (c_copyFrom hI l h10b h3b (by omega) hLT hL (hk).1) ⟨Nat.le_of_ble_eq_true rfl, Nat.le_of_ble_eq_true rfl⟩ (by omega) o10 rfl rfl rfl hl (Nat.le_of_ble_eq_true rfl) dX4_judge_31 ⟨Nat.zero_le _, Nat.zero_le _⟩) hW (fun μ4 H locs q_4 hW => ?_)
        obtain ⟨hL_4, ho_4⟩ := q_4
        obtain ⟨_, _, _, _, _, _, o10_4, -⟩ := id hL_4
        have hk_4 := hk
        have o0_4 := (ho_4 0 (by omega)).trans m0
        have o1_4 := (ho_4 1 (by omega)).trans o1
        have o3_4 := (ho_4 3 (by omega)).trans o3
        have o17_4 := (ho_4 17 (by omega)).trans o17
        have o117_4 := (ho_4 117 (by omega)).trans o117
        have o121_4 := (ho_4 121 (by omega)).trans o121
        have hLx3_4 := laneR_off hL ho_4 (by omega)
        refine lv_iconst (v := nI 0) hx hb dX4_judge_34 (by decide) ?_
        refine lv_istore (lv' := [(4, .int (nI 0)), (0, .ref (xa cx 0)), (1, .int (nI mm)), (2, .long (lN r))]) hx hb dX4_judge_35 hl (by decide) rfl (fun ls hl => ?_)
        have LOOP : ∀ (d i : Nat)  (μ1 : ME) (H : Heap) (locs : List Loc) (ls : Array Slot), i + d = mm → (laneR cx μ1 10 (jL (AL S) mm r i)) → (off 10 7 μ μ1) → (jF (AL S) mm r mm 0 = jF (AL S) mm r d i) → St cx s μ1 H locs → lv_has ls 5 [(0, .ref (xa cx 0)), (1, .int (nI mm)), (2, .long (lN r)), (4, .int (nI i))] → W p l e { frames := 4, cells := 0, slots := 0, locals := 142 } s m [.ref (xa cx 0), .int (nI mm), .long (lN r)].toArray below meth c H locs 0 0 (MQ below (Ei cx (r_judge S (nI mm) (lN r)) (fun μ1 => mainR cx μ1 S ∧ off 0 136 μ μ1)) [.ref (xa cx 0), .int (nI mm), .long (lN r)].toArray s 0 0 (xA cx)) (F0 m 37 ls []) := by
          intro d
          induction d with
          | zero =>
            intro i  μ1 H locs ls hid hLi ho1 hf hW hl
            have p0 := (ho1 0 (by omega)).trans m0
            have p3 := (ho1 3 (by omega)).trans o3
            have p117 := (ho1 117 (by omega)).trans o117
            obtain ⟨_, _, _, _, _, _, p10, -⟩ := id hLi
            have hki := lok_jL hk mm r i
            have hLx := laneR_off hL ho1 (by omega)
            refine lv_iload hx hb dX4_judge_37 (lv_at hl 3 rfl) ?_
            refine lv_iload_n hx hb dX4_judge_39 rfl (lv_at hl 1 rfl) ?_
            refine nv_cge (tgt := 67) F (by omega) (by omega) dX4_judge_40 (by decide) (fun c_5 => ?_) (fun c_5 => ?_)
            · skip
              refine lv_bipush (v := (-9)) hx hb dX4_judge_67 (by decide) ?_
              have hoz : off 10 7 μ μ1 := (fun z hz => by rw [ho1 z (by omega)])
              exact rt_ie F hr hlk hW (by unfold r_judge; rw [c14_nI hm1 hm4, nI_clamp (by omega), hfg, lN_tn hr9]; show _ = jF (AL S) mm r mm 0; rw [hf]; first | rfl | (show _ = (if dB (jL (AL S) mm r i) r (4 * mm) (4 * i) = true then _ else _); rw [if_neg (by rw [‹dB (jL (AL S) mm r i) r (4 * mm) (4 * i) = false›]; decide)])) ⟨mainR_trial hM hoz ⟨_, hLi⟩, off_big hoz (by omega)⟩ dX4_judge_69
            · skip
              exact absurd c_5 (by omega)
          | succ d ih =>
            intro i  μ1 H locs ls hid hLi ho1 hf hW hl
            have p0 := (ho1 0 (by omega)).trans m0
            have p3 := (ho1 3 (by omega)).trans o3
            have p117 := (ho1 117 (by omega)).trans o117
            obtain ⟨_, _, _, _, _, _, p10, -⟩ := id hLi
            have hki := lok_jL hk mm r i
            have hLx := laneR_off hL ho1 (by omega)
            refine lv_iload hx hb dX4_judge_37 (lv_at hl 3 rfl) ?_
            refine lv_iload_n hx hb dX4_judge_39 rfl (lv_at hl 1 rfl) ?_
            refine nv_cge (tgt := 67) F (by omega) (by omega) dX4_judge_40 (by decide) (fun c_6 => ?_) (fun c_6 => ?_)
            · skip
              exact absurd c_6 (by omega)
            · skip
              refine lv_aload_n hx hb dX4_judge_43 rfl (lv_at hl 0 rfl) ?_
              refine lv_lload_n hx hb dX4_judge_44 rfl (lv_at hl 2 rfl) ?_
              refine lv_iconst (v := nI 4) hx hb dX4_judge_45 (by decide) ?_
              refine lv_iload_n hx hb dX4_judge_46 rfl (lv_at hl 1 rfl) ?_
              refine nv_mul F dX4_judge_47 ?_
              refine lv_iconst (v := nI 4) hx hb dX4_judge_48 (by decide) ?_
              refine lv_iload hx hb dX4_judge_49 (lv_at hl 3 rfl) ?_
              refine nv_mul F dX4_judge_51 ?_
              refine cl_ie (cl_run (rest := []) F hW e_X4_202 (c_canBe hI l hN (mainR_trial hM (fun z hz => by rw [ho1 z (by omega)]) ⟨_, hLi⟩) hA hB hLi hki (by omega) r (4 * mm) (4 * i) hr9 (by omega) (by omega)) ⟨Nat.le_of_ble_eq_true rfl, Nat.le_of_ble_eq_true rfl⟩ (by omega) p0 rfl rfl rfl hl (Nat.le_of_ble_eq_true rfl) dX4_judge_52 ⟨Nat.zero_le _, Nat.zero_le _⟩) hW (fun μ7 H locs q_7 hW => ?_)
              obtain ⟨⟨L1_7, hL_7⟩, hT_7, ho_7⟩ := q_7
              obtain ⟨_, _, _, _, _, _, o10_7, -⟩ := id hL_7
              have o0_7 := (ho_7 0 (by omega)).trans p0
              have o3_7 := (ho_7 3 (by omega)).trans p3
              have o117_7 := (ho_7 117 (by omega)).trans p117
              have hLx3_7 := laneR_off hLx ho_7 (by omega)
              refine nv_bne (tgt := 61) F dX4_judge_55 (by decide) (fun c_8 => ?_) (fun c_8 => ?_)
              · skip
                refine lv_iinc (v := ((nI (i + 1)))) (lv' := [(4, .int (nI (i + 1))), (0, .ref (xa cx 0)), (1, .int (nI mm)), (2, .long (lN r))]) hx hb dX4_judge_61 hl (k := 3) rfl (nI_add _ _) (by decide) rfl (fun ls hl => ?_)
                refine lv_goto (tgt := 37) hx hb dX4_judge_64 (by decide) ?_
                exact ih (i + 1) μ7 _ _ _ (by omega) (hT_7 (by assumption)) (fun z hz => by rw [ho_7 z (by omega)]; rw [ho1 z (by omega)]) (by rw [hf]; show (if dB (jL (AL S) mm r i) r (4 * mm) (4 * i) = true then _ else _) = _; rw [if_pos (by assumption)]) hW (lv_sub hl [1, 2, 3, 0] rfl)
              · skip
                refine lv_iload hx hb dX4_judge_58 (lv_at hl 3 rfl) ?_
                have hoz : off 10 7 μ μ7 := (fun z hz => by rw [ho_7 z (by omega)]; rw [ho1 z (by omega)])
                exact rt_ie F hr hlk hW (by unfold r_judge; rw [c14_nI hm1 hm4, nI_clamp (by omega), hfg, lN_tn hr9]; show _ = jF (AL S) mm r mm 0; rw [hf]; first | rfl | (show _ = (if dB (jL (AL S) mm r i) r (4 * mm) (4 * i) = true then _ else _); rw [if_neg (by rw [‹dB (jL (AL S) mm r i) r (4 * mm) (4 * i) = false›]; decide)])) ⟨mainR_trial hM hoz ⟨_, hL_7⟩, off_big hoz (by omega)⟩ dX4_judge_60
        exact LOOP mm 0 μ4 _ _ _ (by omega) hL_4 (fun z hz => by rw [ho_4 z (by omega)]) rfl hW (lv_sub hl [1, 2, 3, 0] rfl)
      · skip
        refine lv_bipush (v := (-2)) hx hb dX4_judge_20 (by decide) ?_
        exact rt_ie F hr hlk hW (by unfold r_judge; rw [show (c14 _ && figs x _) = false by first | (rw [c14_lo (by assumption)]; rfl) | (rw [c14_hi (by assumption)]; rfl) | (rw [nI_clamp (by omega), ‹figs x (4 * mm) = false›, Bool.and_false])]; rfl) ⟨hM, off_rf⟩ dX4_judge_22
