def rsI (L : LN) (j o a : Nat) : Nat → Nat → Nat × Int32 → Nat × Int32
  | 0, _, q => q
  | d + 1, b, q => rsI L j o a d (b + 1) (rsP L j o a b q)
def rsO (L : LN) (j o : Nat) : Nat → Nat → Nat × Int32 → Nat × Int32
  | 0, _, q => q
  | d + 1, a, q => rsO L j o d (a + 1) (rsI L j o a 2 0 q)

set_option maxHeartbeats 4000000 in
set_option maxRecDepth 100000 in
theorem k_rests {cx : CX} (hI : xI cx) (l : Launch) {μ : ME} {S : AS} {B : Nat} (hN : 136 ≤ xN cx) (hM : mainR cx μ S) (hA : aok S B) (hB : B < 800000) (h k w : Int32) : MT cx l yX4_rests cX4_rests 8 (some .int) 6 185 [.ref (xa cx 0), .int h, .int k, .int w] μ (Ei cx (r_rests S h k w) (fun μ1 => mainR cx μ1 S ∧ off 0 136 μ μ1)) := by
  refine mt_of hI (by decide) (Nat.le_of_ble_eq_true rfl) ?_
  intro p e s m below meth c ls F hr hlk hW hl
  have hx := F.1.1
  have hb := F.1.2.1
  have hts := F.1.2.2.2.2
  obtain ⟨m0, hT, hL, ⟨LT, hLT⟩, hPa, hSe, hSl⟩ := id hM
  have hk := hA.2.1
  have hn6 := hk.1
  have h3b : 3 + 7 ≤ xN cx := by omega
  have h10b : 10 + 7 ≤ xN cx := by omega
  obtain ⟨_, _, _, _, _, _, o3, -⟩ := id hL
  obtain ⟨_, _, _, _, _, _, o10, -⟩ := id hLT
  obtain ⟨_, o1, -⟩ := id hT
  obtain ⟨_, _, o17, -⟩ := id hPa
  obtain ⟨_, _, _, o117, -⟩ := id hSe
  obtain ⟨⟨gs, o121, hgs⟩, hsl2, hsl3⟩ := id hSl
  have hl : lv_has ls 8 [(0, .ref (xa cx 0)), (1, .int h), (2, .int k), (3, .int w)] := hl
  refine lv_aload_n hx hb dX4_rests_0 rfl (lv_at hl 0 rfl) ?_
  refine nv_get F hW (by omega) m0 rfl iX4 1 (by decide) tw_149 rfl dX4_rests_1 ?_
  refine lv_iload_n hx hb dX4_rests_4 rfl (lv_at hl 1 rfl) ?_
  refine cl_ip (cl_run (rest := []) F hW e_X4_71 (c_has hI l h3b hL hk h) ⟨Nat.le_of_ble_eq_true rfl, Nat.le_of_ble_eq_true rfl⟩ (by omega) o3 rfl rfl rfl hl (Nat.le_of_ble_eq_true rfl) dX4_rests_5 ⟨Nat.zero_le _, Nat.zero_le _⟩) hW (fun H locs hW => ?_)
  refine nv_beq (tgt := 22) F dX4_rests_8 (by decide) (fun c_1 => ?_) (fun c_1 => ?_)
  · skip
    refine lv_iconst (v := (-1)) hx hb dX4_rests_22 (by decide) ?_
    exact rt_ie F hr hlk hW (by unfold r_rests; first | (rw [‹inR h (Ln (AL S)) = false›]; rfl) | (rw [‹inR k (Ln (AL S)) = false›, Bool.and_false]; rfl)) ⟨hM, off_rf⟩ dX4_rests_23
  · skip
    obtain ⟨j, hj, rfl⟩ := inR_of c_1 (by omega)
    refine lv_aload_n hx hb dX4_rests_11 rfl (lv_at hl 0 rfl) ?_
    refine nv_get F hW (by omega) m0 rfl iX4 1 (by decide) tw_149 rfl dX4_rests_12 ?_
    refine lv_iload_n hx hb dX4_rests_15 rfl (lv_at hl 2 rfl) ?_
    refine cl_ip (cl_run (rest := []) F hW e_X4_71 (c_has hI l h3b hL hk k) ⟨Nat.le_of_ble_eq_true rfl, Nat.le_of_ble_eq_true rfl⟩ (by omega) o3 rfl rfl rfl hl (Nat.le_of_ble_eq_true rfl) dX4_rests_16 ⟨Nat.zero_le _, Nat.zero_le _⟩) hW (fun H locs hW => ?_)
    refine nv_bne (tgt := 24) F dX4_rests_19 (by decide) (fun c_2 => ?_) (fun c_2 => ?_)
    · skip
      obtain ⟨o, hoo, rfl⟩ := inR_of c_2 (by omega)
      refine lv_iload_n hx hb dX4_rests_24 rfl (lv_at hl 1 rfl) ?_
      refine lv_iload_n hx hb dX4_rests_25 rfl (lv_at hl 2 rfl) ?_
      refine nv_ceq (tgt := 36) F (by omega) (by omega) dX4_rests_26 (by decide) (fun c_3 => ?_) (fun c_3 => ?_)
      · skip
        refine lv_bipush (v := (-2)) hx hb dX4_rests_36 (by decide) ?_
        exact rt_ie F hr hlk hW (by unfold r_rests; rw [inR_j hj (by omega), inR_j hoo (by omega)]; show _ = (if (decide (¬ nI j = nI o) && halI w) = true then _ else _); rw [if_neg (by first | (rw [‹halI w = false›, Bool.and_false]; decide) | (rw [decide_eq_false (fun q => q (congrArg nI (by assumption)))]; simp))]) ⟨hM, off_rf⟩ dX4_rests_38
      · skip
        refine lv_iload_n hx hb dX4_rests_29 rfl (lv_at hl 3 rfl) ?_
        refine cl_ip (cl_runS (rest := []) F hW e_X4_135 (c_isHalf hI l w) ⟨Nat.le_of_ble_eq_true rfl, Nat.le_of_ble_eq_true rfl⟩ rfl rfl hl (Nat.le_of_ble_eq_true rfl) dX4_rests_30 ⟨Nat.zero_le _, Nat.zero_le _⟩) hW (fun H locs hW => ?_)
        refine nv_bne (tgt := 39) F dX4_rests_33 (by decide) (fun c_4 => ?_) (fun c_4 => ?_)
        · skip
          refine lv_iconst (v := nI 0) hx hb dX4_rests_39 (by decide) ?_
          refine lv_istore (lv' := [(4, .int (nI 0)), (0, .ref (xa cx 0)), (1, .int (nI j)), (2, .int (nI o)), (3, .int w)]) hx hb dX4_rests_40 hl (by decide) rfl (fun ls hl => ?_)
          refine lv_bipush (v := (-9)) hx hb dX4_rests_42 (by decide) ?_
          refine lv_istore (lv' := [(5, .int ((-9))), (4, .int (nI 0)), (0, .ref (xa cx 0)), (1, .int (nI j)), (2, .int (nI o)), (3, .int w)]) hx hb dX4_rests_44 hl (by decide) rfl (fun ls hl => ?_)
          refine lv_iconst (v := nI 0) hx hb dX4_rests_46 (by decide) ?_
          refine lv_istore (lv' := [(6, .int (nI 0)), (5, .int ((-9))), (4, .int (nI 0)), (0, .ref (xa cx 0)), (1, .int (nI j)), (2, .int (nI o)), (3, .int w)]) hx hb dX4_rests_47 hl (by decide) rfl (fun ls hl => ?_)
          have LOOP49 : ∀ (d9 i : Nat) (LT1 : LN) (fw : Nat) (fr : Int32) (μ1 : ME) (H : Heap) (locs : List Loc) (ls : Array Slot), i + d9 = 2 → (laneR cx μ1 10 LT1) → (off 10 7 μ μ1) → (rsO (AL S) j o 2 0 (0, -9) = rsO (AL S) j o d9 i (fw, fr)) → (fw ≤ 2 * i) → St cx s μ1 H locs → lv_has ls 8 [(0, .ref (xa cx 0)), (1, .int (nI j)), (2, .int (nI o)), (3, .int w), (4, .int (nI fw)), (5, .int fr), (6, .int (nI i))] → W p l e { frames := 6, cells := 0, slots := 0, locals := 185 } s m [.ref (xa cx 0), .int (nI j), .int (nI o), .int w].toArray below meth c H locs 0 0 (MQ below (Ei cx (r_rests S (nI j) (nI o) w) (fun μ1 => mainR cx μ1 S ∧ off 0 136 μ μ1)) [.ref (xa cx 0), .int (nI j), .int (nI o), .int w].toArray s 0 0 (xA cx)) (F0 m 49 ls []) := by
            intro d9
            induction d9 with
            | zero =>
              intro i LT1 fw fr μ1 H locs ls hid hLi ho1 hf hfw hW hl
              have p0 := (ho1 0 (by omega)).trans m0
              have p3 := (ho1 3 (by omega)).trans o3
              have p117 := (ho1 117 (by omega)).trans o117
              obtain ⟨_, _, _, _, _, _, p10, -⟩ := id hLi
              have hLx := laneR_off hL ho1 (by omega)
              refine lv_iload hx hb dX4_rests_49 (lv_at hl 6 rfl) ?_
              refine lv_iconst (v := nI 1) hx hb dX4_rests_51 (by decide) ?_
              refine nv_cgt (tgt := 127) F (by omega) (by omega) dX4_rests_52 (by decide) (fun c_5 => ?_) (fun c_5 => ?_)
              · skip
                refine lv_iload_n hx hb dX4_rests_127 rfl (lv_at hl 3 rfl) ?_
                refine lv_if_ne (tgt := 136) hx hb dX4_rests_128 (by decide) (fun c_6 => ?_) (fun c_6 => ?_)
                · skip
                  refine lv_iload hx hb dX4_rests_136 (lv_at hl 5 rfl) ?_
                  have hoz : off 10 7 μ μ1 := (fun z hz => by rw [ho1 z (by omega)])
                  exact rt_ie F hr hlk hW (by have hne : ¬ nI j = nI o := (fun q => absurd ((nI_eq (show j < 2147483648 by omega) (show o < 2147483648 by omega)).mp q) (by assumption)); unfold r_rests; rw [inR_j hj (by omega), inR_j hoo (by omega), decide_eq_true hne, ‹halI w = true›, nI_clamp (by omega), nI_clamp (by omega)]; show _ = (if w = nI 0 then nI (rsO (AL S) j o 2 0 (0, -9)).1 else (rsO (AL S) j o 2 0 (0, -9)).2); rw [hf]; first | (rw [if_pos (by assumption)]; rfl) | (rw [if_neg (by assumption)]; rfl)) ⟨mainR_trial hM hoz ⟨_, hLi⟩, off_big hoz (by omega)⟩ dX4_rests_138
                · skip
                  refine lv_iload hx hb dX4_rests_131 (lv_at hl 4 rfl) ?_
                  refine lv_goto (tgt := 138) hx hb dX4_rests_133 (by decide) ?_
                  have hoz : off 10 7 μ μ1 := (fun z hz => by rw [ho1 z (by omega)])
                  exact rt_ie F hr hlk hW (by have hne : ¬ nI j = nI o := (fun q => absurd ((nI_eq (show j < 2147483648 by omega) (show o < 2147483648 by omega)).mp q) (by assumption)); unfold r_rests; rw [inR_j hj (by omega), inR_j hoo (by omega), decide_eq_true hne, ‹halI w = true›, nI_clamp (by omega), nI_clamp (by omega)]; show _ = (if w = nI 0 then nI (rsO (AL S) j o 2 0 (0, -9)).1 else (rsO (AL S) j o 2 0 (0, -9)).2); rw [hf]; first | (rw [if_pos (by assumption)]; rfl) | (rw [if_neg (by assumption)]; rfl)) ⟨mainR_trial hM hoz ⟨_, hLi⟩, off_big hoz (by omega)⟩ dX4_rests_138
              · skip
                exact absurd c_5 (by omega)
            | succ d9 ih49 =>
              intro i LT1 fw fr μ1 H locs ls hid hLi ho1 hf hfw hW hl
              have p0 := (ho1 0 (by omega)).trans m0
              have p3 := (ho1 3 (by omega)).trans o3
              have p117 := (ho1 117 (by omega)).trans o117
              obtain ⟨_, _, _, _, _, _, p10, -⟩ := id hLi
              have hLx := laneR_off hL ho1 (by omega)
              refine lv_iload hx hb dX4_rests_49 (lv_at hl 6 rfl) ?_
              refine lv_iconst (v := nI 1) hx hb dX4_rests_51 (by decide) ?_
              refine nv_cgt (tgt := 127) F (by omega) (by omega) dX4_rests_52 (by decide) (fun c_7 => ?_) (fun c_7 => ?_)
              · skip
                exact absurd c_7 (by omega)
              · skip
                refine lv_iconst (v := nI 0) hx hb dX4_rests_55 (by decide) ?_
                refine lv_istore (lv' := [(7, .int (nI 0)), (0, .ref (xa cx 0)), (1, .int (nI j)), (2, .int (nI o)), (3, .int w), (4, .int (nI fw)), (5, .int fr), (6, .int (nI i))]) hx hb dX4_rests_56 hl (by decide) rfl (fun ls hl => ?_)
                have LOOP58 : ∀ (d b : Nat) (LT1 : LN) (g : Nat) (gr : Int32) (μ1 : ME) (H : Heap) (locs : List Loc) (ls : Array Slot), b + d = 2 → (laneR cx μ1 10 LT1) → (off 10 7 μ μ1) → (rsI (AL S) j o i 2 0 (fw, fr) = rsI (AL S) j o i d b (g, gr)) → (g ≤ 2 * i + b) → St cx s μ1 H locs → lv_has ls 8 [(0, .ref (xa cx 0)), (1, .int (nI j)), (2, .int (nI o)), (3, .int w), (4, .int (nI g)), (5, .int gr), (6, .int (nI i)), (7, .int (nI b))] → W p l e { frames := 6, cells := 0, slots := 0, locals := 185 } s m [.ref (xa cx 0), .int (nI j), .int (nI o), .int w].toArray below meth c H locs 0 0 (MQ below (Ei cx (r_rests S (nI j) (nI o) w) (fun μ1 => mainR cx μ1 S ∧ off 0 136 μ μ1)) [.ref (xa cx 0), .int (nI j), .int (nI o), .int w].toArray s 0 0 (xA cx)) (F0 m 58 ls []) := by
                  intro d
                  induction d with
                  | zero =>
                    intro b LT1 g gr μ1 H locs ls hid hLi ho1 hg2 hg hW hl
                    have p0 := (ho1 0 (by omega)).trans m0
                    have p3 := (ho1 3 (by omega)).trans o3
                    have p117 := (ho1 117 (by omega)).trans o117
                    obtain ⟨_, _, _, _, _, _, p10, -⟩ := id hLi
                    have hLx := laneR_off hL ho1 (by omega)
                    refine lv_iload hx hb dX4_rests_58 (lv_at hl 7 rfl) ?_
                    refine lv_iconst (v := nI 1) hx hb dX4_rests_60 (by decide) ?_
                    refine nv_cgt (tgt := 121) F (by omega) (by omega) dX4_rests_61 (by decide) (fun c_8 => ?_) (fun c_8 => ?_)
                    · skip
                      refine lv_iinc (v := ((nI (i + 1)))) (lv' := [(6, .int (nI (i + 1))), (0, .ref (xa cx 0)), (1, .int (nI j)), (2, .int (nI o)), (3, .int w), (4, .int (nI g)), (5, .int gr), (7, .int (nI b))]) hx hb dX4_rests_121 hl (k := 6) rfl (nI_add _ _) (by decide) rfl (fun ls hl => ?_)
                      refine lv_goto (tgt := 49) hx hb dX4_rests_124 (by decide) ?_
                      exact ih49 (i + 1) _ g gr μ1 _ _ _ (by omega) hLi (fun z hz => by rw [ho1 z (by omega)]) (by rw [hf]; show rsO (AL S) j o d9 (i + 1) (rsI (AL S) j o i 2 0 (fw, fr)) = _; rw [hg2]; rfl) (by omega) hW (lv_sub hl [1, 2, 3, 4, 5, 6, 0] rfl)
                    · skip
                      exact absurd c_8 (by omega)
                  | succ d ih58 =>
                    intro b LT1 g gr μ1 H locs ls hid hLi ho1 hg2 hg hW hl
                    have p0 := (ho1 0 (by omega)).trans m0
                    have p3 := (ho1 3 (by omega)).trans o3
                    have p117 := (ho1 117 (by omega)).trans o117
                    obtain ⟨_, _, _, _, _, _, p10, -⟩ := id hLi
                    have hLx := laneR_off hL ho1 (by omega)
                    refine lv_iload hx hb dX4_rests_58 (lv_at hl 7 rfl) ?_
                    refine lv_iconst (v := nI 1) hx hb dX4_rests_60 (by decide) ?_
                    refine nv_cgt (tgt := 121) F (by omega) (by omega) dX4_rests_61 (by decide) (fun c_9 => ?_) (fun c_9 => ?_)
                    · skip
                      exact absurd c_9 (by omega)
                    · skip
                      refine lv_aload_n hx hb dX4_rests_64 rfl (lv_at hl 0 rfl) ?_
                      refine lv_iload_n hx hb dX4_rests_65 rfl (lv_at hl 1 rfl) ?_
                      refine lv_iload hx hb dX4_rests_66 (lv_at hl 6 rfl) ?_
                      refine lv_iload_n hx hb dX4_rests_68 rfl (lv_at hl 2 rfl) ?_
                      refine lv_iload hx hb dX4_rests_69 (lv_at hl 7 rfl) ?_
                      refine cl_ie (cl_run (rest := []) F hW e_X4_237 (c_prefers hI l hN (mainR_trial hM (fun z hz => by rw [ho1 z (by omega)]) ⟨_, hLi⟩) hA hB j i o b (by omega) (by omega) (by omega) (by omega)) ⟨Nat.le_of_ble_eq_true rfl, Nat.le_of_ble_eq_true rfl⟩ (by omega) p0 rfl rfl rfl hl (Nat.le_of_ble_eq_true rfl) dX4_rests_71 ⟨Nat.zero_le _, Nat.zero_le _⟩) hW (fun μ10 H locs q_10 hW => ?_)
                      obtain ⟨⟨L1_10, hL_10⟩, ho_10⟩ := q_10
                      obtain ⟨_, _, _, _, _, _, o10_10, -⟩ := id hL_10
                      have o0_10 := (ho_10 0 (by omega)).trans p0
                      have o3_10 := (ho_10 3 (by omega)).trans p3
                      have o117_10 := (ho_10 117 (by omega)).trans p117
                      have hLx3_10 := laneR_off hLx ho_10 (by omega)
                      refine nv_beq (tgt := 115) F dX4_rests_74 (by decide) (fun c_11 => ?_) (fun c_11 => ?_)
                      · skip
                        refine lv_iinc (v := ((nI (b + 1)))) (lv' := [(7, .int (nI (b + 1))), (0, .ref (xa cx 0)), (1, .int (nI j)), (2, .int (nI o)), (3, .int w), (4, .int (nI g)), (5, .int gr), (6, .int (nI i))]) hx hb dX4_rests_115 hl (k := 7) rfl (nI_add _ _) (by decide) rfl (fun ls hl => ?_)
                        refine lv_goto (tgt := 58) hx hb dX4_rests_118 (by decide) ?_
                        exact ih58 (b + 1) _ (g) gr μ10 _ _ _ (by omega) hL_10 (fun z hz => by rw [ho_10 z (by omega)]; rw [ho1 z (by omega)]) (by rw [hg2]; show rsI (AL S) j o i d (b + 1) (if (prB (AL S) j i o b && prB (AL S) o b j i) = true then _ else (g, gr)) = _; rw [if_neg (by first | (rw [‹prB (AL S) j i o b = false›]; simp; done) | (rw [‹prB (AL S) o b j i = false›, Bool.and_false]; decide))]) (by omega) hW (lv_sub hl [1, 2, 3, 4, 5, 6, 7, 0] rfl)
                      · skip
                        refine lv_aload_n hx hb dX4_rests_77 rfl (lv_at hl 0 rfl) ?_
                        refine lv_iload_n hx hb dX4_rests_78 rfl (lv_at hl 2 rfl) ?_
                        refine lv_iload hx hb dX4_rests_79 (lv_at hl 7 rfl) ?_
                        refine lv_iload_n hx hb dX4_rests_81 rfl (lv_at hl 1 rfl) ?_
                        refine lv_iload hx hb dX4_rests_82 (lv_at hl 6 rfl) ?_
                        refine cl_ie (cl_run (rest := []) F hW e_X4_237 (c_prefers hI l hN (mainR_trial hM (fun z hz => by rw [ho_10 z (by omega)]; rw [ho1 z (by omega)]) ⟨_, hL_10⟩) hA hB o b j i (by omega) (by omega) (by omega) (by omega)) ⟨Nat.le_of_ble_eq_true rfl, Nat.le_of_ble_eq_true rfl⟩ (by omega) o0_10 rfl rfl rfl hl (Nat.le_of_ble_eq_true rfl) dX4_rests_84 ⟨Nat.zero_le _, Nat.zero_le _⟩) hW (fun μ12 H locs q_12 hW => ?_)
                        obtain ⟨⟨L1_12, hL_12⟩, ho_12⟩ := q_12
                        obtain ⟨_, _, _, _, _, _, o10_12, -⟩ := id hL_12
                        have o0_12 := (ho_12 0 (by omega)).trans o0_10
                        have o3_12 := (ho_12 3 (by omega)).trans o3_10
                        have o117_12 := (ho_12 117 (by omega)).trans o117_10
                        have hLx3_12 := laneR_off hLx3_10 ho_12 (by omega)
                        refine nv_beq (tgt := 115) F dX4_rests_87 (by decide) (fun c_13 => ?_) (fun c_13 => ?_)
                        · skip
                          refine lv_iinc (v := ((nI (b + 1)))) (lv' := [(7, .int (nI (b + 1))), (0, .ref (xa cx 0)), (1, .int (nI j)), (2, .int (nI o)), (3, .int w), (4, .int (nI g)), (5, .int gr), (6, .int (nI i))]) hx hb dX4_rests_115 hl (k := 7) rfl (nI_add _ _) (by decide) rfl (fun ls hl => ?_)
                          refine lv_goto (tgt := 58) hx hb dX4_rests_118 (by decide) ?_
                          exact ih58 (b + 1) _ (g) gr μ12 _ _ _ (by omega) hL_12 (fun z hz => by rw [ho_12 z (by omega)]; rw [ho_10 z (by omega)]; rw [ho1 z (by omega)]) (by rw [hg2]; show rsI (AL S) j o i d (b + 1) (if (prB (AL S) j i o b && prB (AL S) o b j i) = true then _ else (g, gr)) = _; rw [if_neg (by first | (rw [‹prB (AL S) j i o b = false›]; simp; done) | (rw [‹prB (AL S) o b j i = false›, Bool.and_false]; decide))]) (by omega) hW (lv_sub hl [1, 2, 3, 4, 5, 6, 7, 0] rfl)
                        · skip
                          refine lv_iinc (v := ((nI (g + 1)))) (lv' := [(4, .int (nI (g + 1))), (0, .ref (xa cx 0)), (1, .int (nI j)), (2, .int (nI o)), (3, .int w), (5, .int gr), (6, .int (nI i)), (7, .int (nI b))]) hx hb dX4_rests_90 hl (k := 4) rfl (nI_add _ _) (by decide) rfl (fun ls hl => ?_)
                          refine lv_iload hx hb dX4_rests_93 (lv_at hl 5 rfl) ?_
                          refine lv_bipush (v := (-9)) hx hb dX4_rests_95 (by decide) ?_
                          refine lv_icmp_ne (tgt := 111) hx hb dX4_rests_97 (by decide) (fun c_14 => ?_) (fun c_14 => ?_)
                          · skip
                            refine lv_iload hx hb dX4_rests_111 (lv_at hl 5 rfl) ?_
                            refine lv_istore (lv' := [(5, .int gr), (4, .int (nI (g + 1))), (0, .ref (xa cx 0)), (1, .int (nI j)), (2, .int (nI o)), (3, .int w), (6, .int (nI i)), (7, .int (nI b))]) hx hb dX4_rests_113 hl (by decide) rfl (fun ls hl => ?_)
                            refine lv_iinc (v := ((nI (b + 1)))) (lv' := [(7, .int (nI (b + 1))), (5, .int gr), (4, .int (nI (g + 1))), (0, .ref (xa cx 0)), (1, .int (nI j)), (2, .int (nI o)), (3, .int w), (6, .int (nI i))]) hx hb dX4_rests_115 hl (k := 7) rfl (nI_add _ _) (by decide) rfl (fun ls hl => ?_)
                            refine lv_goto (tgt := 58) hx hb dX4_rests_118 (by decide) ?_
                            exact ih58 (b + 1) _ (g + 1) gr μ12 _ _ _ (by omega) hL_12 (fun z hz => by rw [ho_12 z (by omega)]; rw [ho_10 z (by omega)]; rw [ho1 z (by omega)]) (by rw [hg2]; show rsI (AL S) j o i d (b + 1) (if (prB (AL S) j i o b && prB (AL S) o b j i) = true then (g + 1, if gr = -9 then nI (10 * i + b) else gr) else _) = _; rw [if_pos (by rw [‹prB (AL S) j i o b = true›, ‹prB (AL S) o b j i = true›]; rfl), if_neg (by assumption)]) (by omega) hW (lv_sub hl [3, 4, 5, 6, 2, 1, 7, 0] rfl)
                          · skip
                            refine lv_bipush (v := nI 10) hx hb dX4_rests_100 (by decide) ?_
                            refine lv_iload hx hb dX4_rests_102 (lv_at hl 6 rfl) ?_
                            refine nv_mul F dX4_rests_104 ?_
                            refine lv_iload hx hb dX4_rests_105 (lv_at hl 7 rfl) ?_
                            refine nv_add F dX4_rests_107 ?_
                            refine lv_goto (tgt := 113) hx hb dX4_rests_108 (by decide) ?_
                            refine lv_istore (lv' := [(5, .int (nI ((10 * i) + b))), (4, .int (nI (g + 1))), (0, .ref (xa cx 0)), (1, .int (nI j)), (2, .int (nI o)), (3, .int w), (6, .int (nI i)), (7, .int (nI b))]) hx hb dX4_rests_113 hl (by decide) rfl (fun ls hl => ?_)
                            refine lv_iinc (v := ((nI (b + 1)))) (lv' := [(7, .int (nI (b + 1))), (5, .int (nI ((10 * i) + b))), (4, .int (nI (g + 1))), (0, .ref (xa cx 0)), (1, .int (nI j)), (2, .int (nI o)), (3, .int w), (6, .int (nI i))]) hx hb dX4_rests_115 hl (k := 7) rfl (nI_add _ _) (by decide) rfl (fun ls hl => ?_)
                            refine lv_goto (tgt := 58) hx hb dX4_rests_118 (by decide) ?_
                            exact ih58 (b + 1) _ (g + 1) ((nI ((10 * i) + b))) μ12 _ _ _ (by omega) hL_12 (fun z hz => by rw [ho_12 z (by omega)]; rw [ho_10 z (by omega)]; rw [ho1 z (by omega)]) (by rw [hg2]; show rsI (AL S) j o i d (b + 1) (if (prB (AL S) j i o b && prB (AL S) o b j i) = true then (g + 1, if gr = -9 then nI (10 * i + b) else gr) else _) = _; rw [if_pos (by rw [‹prB (AL S) j i o b = true›, ‹prB (AL S) o b j i = true›]; rfl), if_pos (by assumption)]) (by omega) hW (lv_sub hl [3, 4, 5, 6, 2, 1, 7, 0] rfl)
                exact LOOP58 2 0 _ fw fr μ1 _ _ _ (by omega) hLi ho1 rfl (by omega) hW (lv_sub hl [1, 2, 3, 4, 5, 6, 7, 0] rfl)
          exact LOOP49 2 0 _ 0 (-9) μ _ _ _ (by omega) hLT off_rf rfl (by omega) hW (lv_sub hl [3, 4, 5, 6, 2, 1, 0] rfl)
        · skip
          refine lv_bipush (v := (-2)) hx hb dX4_rests_36 (by decide) ?_
          exact rt_ie F hr hlk hW (by unfold r_rests; rw [inR_j hj (by omega), inR_j hoo (by omega)]; show _ = (if (decide (¬ nI j = nI o) && halI w) = true then _ else _); rw [if_neg (by first | (rw [‹halI w = false›, Bool.and_false]; decide) | (rw [decide_eq_false (fun q => q (congrArg nI (by assumption)))]; simp))]) ⟨hM, off_rf⟩ dX4_rests_38
    · skip
      refine lv_iconst (v := (-1)) hx hb dX4_rests_22 (by decide) ?_
      exact rt_ie F hr hlk hW (by unfold r_rests; first | (rw [‹inR h (Ln (AL S)) = false›]; rfl) | (rw [‹inR k (Ln (AL S)) = false›, Bool.and_false]; rfl)) ⟨hM, off_rf⟩ dX4_rests_23

def stF (L : LN) (q : Nat) : Nat := pop (LU (hrs 3 (failL L q)))
def sbB (U q : Nat) : Bool := decide (bitsOf (fun h => q.testBit h && !U.testBit h) 6 = 0)
def flT (U x q : Nat) : Nat := x ^ pop q * (10 - x) ^ (pop U - pop q)
def flB (L : LN) (v q : Nat) : Bool := sbB (LU L) q && decide (v ≤ stF L q)
def flS (L : LN) (v x : Nat) : Nat → Nat
  | 0 => 0
  | q + 1 => flS L v x q + (if flB L v q then flT (LU L) x q else 0)
theorem sb_pop : ∀ U, U < 64 → ∀ q, q < 64 → sbB U q = true → pop q ≤ pop U := by decide +kernel
theorem flT_le {U x q : Nat} (hU : U < 64) (hq : q < 64) (hx : x ≤ 10) (h : sbB U q = true) : flT U x q ≤ 1000000 := by
  have h1 := sb_pop U hU q hq h
  have h2 := pop_le U
  unfold flT
  have a1 : x ^ pop q ≤ 10 ^ pop q := Nat.pow_le_pow_left hx _
  have a2 : (10 - x) ^ (pop U - pop q) ≤ 10 ^ (pop U - pop q) := Nat.pow_le_pow_left (by omega) _
  have a3 := Nat.mul_le_mul a1 a2
  rw [← Nat.pow_add, show pop q + (pop U - pop q) = pop U by omega] at a3
  have a4 : 10 ^ pop U ≤ 10 ^ 6 := Nat.pow_le_pow_right (by decide) h2
  omega
theorem flS_le {L : LN} {v x : Nat} (hU : LU L < 64) (hx : x ≤ 10) : ∀ q, q ≤ 64 → flS L v x q ≤ 1000000 * q := by
  intro q
  induction q with
  | zero => intro _; exact Nat.le_refl _
  | succ q ih =>
    intro hq
    have := ih (by omega)
    show flS L v x q + _ ≤ _
    split
    · rename_i h
      unfold flB at h
      simp only [Bool.and_eq_true] at h
      have := flT_le hU (show q < 64 by omega) hx h.1
      omega
    · omega
def r_fails (S : AS) (v x : Int32) (up : Bool) : Int32 := if inR v 7 && inR x 11 then pofI (flS (AL S) v.toNatClampNeg x.toNatClampNeg (2 ^ Ln (AL S)) : Nat) (10 ^ pop (LU (AL S))) up else -2
theorem le_hi {x : Int32} {k : Nat} (hk : k < 2147483647) (c : nI k < x) : inR x (k + 1) = false := by
  rw [Int32.lt_iff_toInt_lt, nI_toInt (by omega)] at c
  apply decide_eq_false
  omega
theorem le_in {x : Int32} {k : Nat} (hk : k < 2147483647) (c : ¬ x < 0) (d : ¬ nI k < x) : inR x (k + 1) = true := by
  rw [Int32.lt_iff_toInt_lt, nI_toInt (by omega)] at d
  rw [Int32.lt_iff_toInt_lt] at c
  have z : (0 : Int32).toInt = 0 := rfl
  apply decide_eq_true
  omega
theorem nle_lt {x y : Int32} (c : ¬ x ≤ y) : y < x := by
  rw [Int32.le_iff_toInt_le] at c
  rw [Int32.lt_iff_toInt_lt]
  omega
theorem le_nlt {x y : Int32} (c : x ≤ y) : ¬ y < x := by
  rw [Int32.le_iff_toInt_le] at c
  rw [Int32.lt_iff_toInt_lt]
  omega

set_option maxHeartbeats 4000000 in
set_option maxRecDepth 100000 in
theorem c_standingWithFailed {cx : CX} (hI : xI cx) (l : Launch) {μ : ME} {S : AS} {B : Nat} (hN : 136 ≤ xN cx) (hM : mainR cx μ S) (hA : aok S B) (hB : B < 800000) (q : Nat) (hq : q < 64) : MT cx l yX4_standingWithFailed cX4_standingWithFailed 2 (some .int) 4 137 [.ref (xa cx 0), .int (nI q)] μ (Ei cx (nI (stF (AL S) q)) (fun μ1 => (∃ L1, laneR cx μ1 10 L1) ∧ off 10 7 μ μ1)) := by
  refine mt_of hI (by decide) (Nat.le_of_ble_eq_true rfl) ?_
  intro p e s m below meth c ls F hr hlk hW hl
  have hx := F.1.1
  have hb := F.1.2.1
  have hts := F.1.2.2.2.2
  obtain ⟨m0, hT, hL, ⟨LT, hLT⟩, hPa, hSe, hSl⟩ := id hM
  have hk := hA.2.1
  have hn6 := hk.1
  have h3b : 3 + 7 ≤ xN cx := by omega
  have h10b : 10 + 7 ≤ xN cx := by omega
  obtain ⟨_, _, _, _, _, _, o3, -⟩ := id hL
  obtain ⟨_, _, _, _, _, _, o10, -⟩ := id hLT
  obtain ⟨_, o1, -⟩ := id hT
  obtain ⟨_, _, o17, -⟩ := id hPa
  obtain ⟨_, _, _, o117, -⟩ := id hSe
  obtain ⟨⟨gs, o121, hgs⟩, hsl2, hsl3⟩ := id hSl
  have hl : lv_has ls 2 [(0, .ref (xa cx 0)), (1, .int (nI q))] := hl
  refine lv_aload_n hx hb dX4_standingWithFailed_0 rfl (lv_at hl 0 rfl) ?_
  refine nv_get F hW (by omega) m0 rfl iX4 2 (by decide) tw_150 rfl dX4_standingWithFailed_1 ?_
  refine lv_aload_n hx hb dX4_standingWithFailed_4 rfl (lv_at hl 0 rfl) ?_
  refine nv_get F hW (by omega) m0 rfl iX4 1 (by decide) tw_149 rfl dX4_standingWithFailed_5 ?_
  refine cl_v (cl_run (rest := []) F hW e_X4_138 (c_copyFrom hI l h10b h3b (by omega) hLT hL (hk).1) ⟨Nat.le_of_ble_eq_true rfl, Nat.le_of_ble_eq_true rfl⟩ (by omega) o10 rfl rfl rfl hl (Nat.le_of_ble_eq_true rfl) dX4_standingWithFailed_8 ⟨Nat.zero_le _, Nat.zero_le _⟩) hW (fun μ1 H locs q_1 hW => ?_)
  obtain ⟨hL_1, ho_1⟩ := q_1
  obtain ⟨_, _, _, _, _, _, o10_1, -⟩ := id hL_1
  have hk_1 := hk
  have o0_1 := (ho_1 0 (by omega)).trans m0
  have o1_1 := (ho_1 1 (by omega)).trans o1
  have o3_1 := (ho_1 3 (by omega)).trans o3
  have o17_1 := (ho_1 17 (by omega)).trans o17
  have o117_1 := (ho_1 117 (by omega)).trans o117
  have o121_1 := (ho_1 121 (by omega)).trans o121
  have hLx3_1 := laneR_off hL ho_1 (by omega)
  refine lv_aload_n hx hb dX4_standingWithFailed_11 rfl (lv_at hl 0 rfl) ?_
  refine nv_get F hW (by omega) o0_1 rfl iX4 2 (by decide) tw_150 rfl dX4_standingWithFailed_12 ?_
  refine lv_iload_n hx hb dX4_standingWithFailed_15 rfl (lv_at hl 1 rfl) ?_
  refine cl_v (cl_run (rest := []) F hW e_X4_250 (c_failDeeds hI l h10b hL_1 hk_1 q (by omega)) ⟨Nat.le_of_ble_eq_true rfl, Nat.le_of_ble_eq_true rfl⟩ (by omega) o10_1 rfl rfl rfl hl (Nat.le_of_ble_eq_true rfl) dX4_standingWithFailed_16 ⟨Nat.zero_le _, Nat.zero_le _⟩) hW (fun μ2 H locs q_2 hW => ?_)
  obtain ⟨hL_2, ho_2⟩ := q_2
  obtain ⟨_, _, _, _, _, _, o10_2, -⟩ := id hL_2
  have hk_2 := lok_failL hk_1 q
  have o0_2 := (ho_2 0 (by omega)).trans o0_1
  have o1_2 := (ho_2 1 (by omega)).trans o1_1
  have o3_2 := (ho_2 3 (by omega)).trans o3_1
  have o17_2 := (ho_2 17 (by omega)).trans o17_1
  have o117_2 := (ho_2 117 (by omega)).trans o117_1
  have o121_2 := (ho_2 121 (by omega)).trans o121_1
  have hLx3_2 := laneR_off hLx3_1 ho_2 (by omega)
  refine lv_aload_n hx hb dX4_standingWithFailed_19 rfl (lv_at hl 0 rfl) ?_
  refine nv_get F hW (by omega) o0_2 rfl iX4 2 (by decide) tw_150 rfl dX4_standingWithFailed_20 ?_
  refine lv_iconst (v := nI 3) hx hb dX4_standingWithFailed_23 (by decide) ?_
  refine cl_v (cl_run (rest := []) F hW e_X4_141 (c_passHours hI l h10b hL_2 hk_2 3 (by omega) (by omega)) ⟨Nat.le_of_ble_eq_true rfl, Nat.le_of_ble_eq_true rfl⟩ (by omega) o10_2 rfl rfl rfl hl (Nat.le_of_ble_eq_true rfl) dX4_standingWithFailed_24 ⟨Nat.zero_le _, Nat.zero_le _⟩) hW (fun μ3 H locs q_3 hW => ?_)
  obtain ⟨hL_3, ho_3⟩ := q_3
  obtain ⟨_, _, _, _, _, _, o10_3, -⟩ := id hL_3
  have hk_3 := lok_hrs hk_2 3
  have o0_3 := (ho_3 0 (by omega)).trans o0_2
  have o1_3 := (ho_3 1 (by omega)).trans o1_2
  have o3_3 := (ho_3 3 (by omega)).trans o3_2
  have o17_3 := (ho_3 17 (by omega)).trans o17_2
  have o117_3 := (ho_3 117 (by omega)).trans o117_2
  have o121_3 := (ho_3 121 (by omega)).trans o121_2
  have hLx3_3 := laneR_off hLx3_2 ho_3 (by omega)
  refine lv_aload_n hx hb dX4_standingWithFailed_27 rfl (lv_at hl 0 rfl) ?_
  refine nv_get F hW (by omega) o0_3 rfl iX4 2 (by decide) tw_150 rfl dX4_standingWithFailed_28 ?_
  refine cl_ip (cl_run (rest := []) F hW e_X4_145 (c_standingBits hI l h10b hL_3 hk_3) ⟨Nat.le_of_ble_eq_true rfl, Nat.le_of_ble_eq_true rfl⟩ (by omega) o10_3 rfl rfl rfl hl (Nat.le_of_ble_eq_true rfl) dX4_standingWithFailed_31 ⟨Nat.zero_le _, Nat.zero_le _⟩) hW (fun H locs hW => ?_)
  refine cl_ip (cl_runS (rest := []) F hW e_X4_219 (c_bitCount hI l (LU (hrs 3 (failL (AL S) q))) (hrs_U6 (lok_failL hk _) _)) ⟨Nat.le_of_ble_eq_true rfl, Nat.le_of_ble_eq_true rfl⟩ rfl rfl hl (Nat.le_of_ble_eq_true rfl) dX4_standingWithFailed_34 ⟨Nat.zero_le _, Nat.zero_le _⟩) hW (fun H locs hW => ?_)
  exact rt_ie F hr hlk hW rfl ⟨⟨_, hL_3⟩, (fun z hz => by rw [ho_3 z (by omega)]; rw [ho_2 z (by omega)]; rw [ho_1 z (by omega)])⟩ dX4_standingWithFailed_37

set_option maxHeartbeats 4000000 in
set_option maxRecDepth 100000 in
theorem k_fails {cx : CX} (hI : xI cx) (l : Launch) {μ : ME} {S : AS} {B : Nat} (hN : 136 ≤ xN cx) (hM : mainR cx μ S) (hA : aok S B) (hB : B < 800000) (vv xx : Int32) (up : Bool) : MT cx l yX4_fails cX4_fails 9 (some .int) 5 158 [.ref (xa cx 0), .int vv, .int xx, .int (b2 up)] μ (Ei cx (r_fails S vv xx up) (fun μ1 => mainR cx μ1 S ∧ off 0 136 μ μ1)) := by
  refine mt_of hI (by decide) (Nat.le_of_ble_eq_true rfl) ?_
  intro p e s m below meth c ls F hr hlk hW hl
  have hx := F.1.1
  have hb := F.1.2.1
  have hts := F.1.2.2.2.2
  obtain ⟨m0, hT, hL, ⟨LT, hLT⟩, hPa, hSe, hSl⟩ := id hM
  have hk := hA.2.1
  have hn6 := hk.1
  have h3b : 3 + 7 ≤ xN cx := by omega
  have h10b : 10 + 7 ≤ xN cx := by omega
  obtain ⟨_, _, _, _, _, _, o3, -⟩ := id hL
  obtain ⟨_, _, _, _, _, _, o10, -⟩ := id hLT
  obtain ⟨_, o1, -⟩ := id hT
  obtain ⟨_, _, o17, -⟩ := id hPa
  obtain ⟨_, _, _, o117, -⟩ := id hSe
  obtain ⟨⟨gs, o121, hgs⟩, hsl2, hsl3⟩ := id hSl
  have hl : lv_has ls 9 [(0, .ref (xa cx 0)), (1, .int vv), (2, .int xx), (3, .int (b2 up))] := hl
  refine lv_iload_n hx hb dX4_fails_0 rfl (lv_at hl 1 rfl) ?_
  refine lv_if_lt (tgt := 20) hx hb dX4_fails_1 (by decide) (fun c_1 => ?_) (fun c_1 => ?_)
  · skip
    refine lv_bipush (v := (-2)) hx hb dX4_fails_20 (by decide) ?_
    exact rt_ie F hr hlk hW (by unfold r_fails; rw [show (inR vv 7 && inR xx 11) = false by first | (rw [inR_neg (by assumption)]; rfl) | (rw [le_hi (k := 6) (by omega) (by assumption)]; rfl) | (rw [show inR xx 11 = false by first | exact inR_neg (by assumption) | exact le_hi (k := 10) (by omega) (nle_lt (by assumption)), Bool.and_false])]; rfl) ⟨hM, off_rf⟩ dX4_fails_22
  · skip
    refine lv_iload_n hx hb dX4_fails_4 rfl (lv_at hl 1 rfl) ?_
    refine lv_bipush (v := nI 6) hx hb dX4_fails_5 (by decide) ?_
    refine lv_icmp_gt (tgt := 20) hx hb dX4_fails_7 (by decide) (fun c_2 => ?_) (fun c_2 => ?_)
    · skip
      refine lv_bipush (v := (-2)) hx hb dX4_fails_20 (by decide) ?_
      exact rt_ie F hr hlk hW (by unfold r_fails; rw [show (inR vv 7 && inR xx 11) = false by first | (rw [inR_neg (by assumption)]; rfl) | (rw [le_hi (k := 6) (by omega) (by assumption)]; rfl) | (rw [show inR xx 11 = false by first | exact inR_neg (by assumption) | exact le_hi (k := 10) (by omega) (nle_lt (by assumption)), Bool.and_false])]; rfl) ⟨hM, off_rf⟩ dX4_fails_22
    · skip
      refine lv_iload_n hx hb dX4_fails_10 rfl (lv_at hl 2 rfl) ?_
      refine lv_if_lt (tgt := 20) hx hb dX4_fails_11 (by decide) (fun c_3 => ?_) (fun c_3 => ?_)
      · skip
        refine lv_bipush (v := (-2)) hx hb dX4_fails_20 (by decide) ?_
        exact rt_ie F hr hlk hW (by unfold r_fails; rw [show (inR vv 7 && inR xx 11) = false by first | (rw [inR_neg (by assumption)]; rfl) | (rw [le_hi (k := 6) (by omega) (by assumption)]; rfl) | (rw [show inR xx 11 = false by first | exact inR_neg (by assumption) | exact le_hi (k := 10) (by omega) (nle_lt (by assumption)), Bool.and_false])]; rfl) ⟨hM, off_rf⟩ dX4_fails_22
      · skip
        refine lv_iload_n hx hb dX4_fails_14 rfl (lv_at hl 2 rfl) ?_
        refine lv_bipush (v := nI 10) hx hb dX4_fails_15 (by decide) ?_
        refine lv_icmp_le (tgt := 23) hx hb dX4_fails_17 (by decide) (fun c_4 => ?_) (fun c_4 => ?_)
        · skip
          obtain ⟨v, hv7, rfl⟩ := inR_of (le_in (k := 6) (by omega) c_1 c_2) (by omega)
          obtain ⟨x, hx11, rfl⟩ := inR_of (le_in (k := 10) (by omega) c_3 (le_nlt c_4)) (by omega)
          have h64 := pow_n6 hn6
          have hU6 := lok_U hk
          refine lv_aload_n hx hb dX4_fails_23 rfl (lv_at hl 0 rfl) ?_
          refine nv_get F hW (by omega) m0 rfl iX4 1 (by decide) tw_149 rfl dX4_fails_24 ?_
          refine cl_ip (cl_run (rest := []) F hW e_X4_145 (c_standingBits hI l h3b hL hk) ⟨Nat.le_of_ble_eq_true rfl, Nat.le_of_ble_eq_true rfl⟩ (by omega) o3 rfl rfl rfl hl (Nat.le_of_ble_eq_true rfl) dX4_fails_27 ⟨Nat.zero_le _, Nat.zero_le _⟩) hW (fun H locs hW => ?_)
          refine cl_ip (cl_runS (rest := []) F hW e_X4_219 (c_bitCount hI l (LU (AL S)) (by omega)) ⟨Nat.le_of_ble_eq_true rfl, Nat.le_of_ble_eq_true rfl⟩ rfl rfl hl (Nat.le_of_ble_eq_true rfl) dX4_fails_30 ⟨Nat.zero_le _, Nat.zero_le _⟩) hW (fun H locs hW => ?_)
          refine lv_istore (lv' := [(4, .int (nI (pop (LU (AL S))))), (0, .ref (xa cx 0)), (1, .int (nI v)), (2, .int (nI x)), (3, .int (b2 up))]) hx hb dX4_fails_33 hl (by decide) rfl (fun ls hl => ?_)
          refine lv_iconst (v := nI 0) hx hb dX4_fails_35 (by decide) ?_
          refine lv_istore (lv' := [(5, .int (nI 0)), (4, .int (nI (pop (LU (AL S))))), (0, .ref (xa cx 0)), (1, .int (nI v)), (2, .int (nI x)), (3, .int (b2 up))]) hx hb dX4_fails_36 hl (by decide) rfl (fun ls hl => ?_)
          refine lv_iconst (v := nI 0) hx hb dX4_fails_38 (by decide) ?_
          refine lv_istore (lv' := [(6, .int (nI 0)), (5, .int (nI 0)), (4, .int (nI (pop (LU (AL S))))), (0, .ref (xa cx 0)), (1, .int (nI v)), (2, .int (nI x)), (3, .int (b2 up))]) hx hb dX4_fails_39 hl (by decide) rfl (fun ls hl => ?_)
          have LOOP : ∀ (d i : Nat) (LT1 : LN) (μ1 : ME) (H : Heap) (locs : List Loc) (ls : Array Slot), i + d = 2 ^ Ln (AL S) → (laneR cx μ1 10 LT1) → (off 10 7 μ μ1) → St cx s μ1 H locs → lv_has ls 9 [(0, .ref (xa cx 0)), (1, .int (nI v)), (2, .int (nI x)), (3, .int (b2 up)), (4, .int (nI (pop (LU (AL S))))), (5, .int (nI (flS (AL S) v x i))), (6, .int (nI i))] → W p l e { frames := 5, cells := 0, slots := 0, locals := 158 } s m [.ref (xa cx 0), .int (nI v), .int (nI x), .int (b2 up)].toArray below meth c H locs 0 0 (MQ below (Ei cx (r_fails S (nI v) (nI x) up) (fun μ1 => mainR cx μ1 S ∧ off 0 136 μ μ1)) [.ref (xa cx 0), .int (nI v), .int (nI x), .int (b2 up)].toArray s 0 0 (xA cx)) (F0 m 41 ls []) := by
            intro d
            induction d with
            | zero =>
              intro i LT1 μ1 H locs ls hid hLi ho1 hW hl
              have p0 := (ho1 0 (by omega)).trans m0
              have p3 := (ho1 3 (by omega)).trans o3
              have p117 := (ho1 117 (by omega)).trans o117
              obtain ⟨_, _, _, _, _, _, p10, -⟩ := id hLi
              have hLx := laneR_off hL ho1 (by omega)
              refine lv_iload hx hb dX4_fails_41 (lv_at hl 6 rfl) ?_
              refine lv_iconst (v := nI 1) hx hb dX4_fails_43 (by decide) ?_
              refine lv_aload_n hx hb dX4_fails_44 rfl (lv_at hl 0 rfl) ?_
              refine nv_get F hW (by omega) p0 rfl iX4 1 (by decide) tw_149 rfl dX4_fails_45 ?_
              refine cl_ip (cl_run (rest := [.int (nI 1), .int (nI i)]) F hW e_X4_68 (c_size hI l h3b hLx hk) ⟨Nat.le_of_ble_eq_true rfl, Nat.le_of_ble_eq_true rfl⟩ (by omega) p3 rfl rfl rfl hl (Nat.le_of_ble_eq_true rfl) dX4_fails_48 ⟨Nat.zero_le _, Nat.zero_le _⟩) hW (fun H locs hW => ?_)
              refine nv_shl F (by omega) (by rw [Nat.one_mul]; omega) dX4_fails_51 ?_
              refine nv_top (y := ((nI (2 ^ Ln (AL S))))) (by rw [Nat.one_mul]) ?_
              refine nv_cge (tgt := 129) F (by omega) (by omega) dX4_fails_52 (by decide) (fun c_5 => ?_) (fun c_5 => ?_)
              · skip
                refine lv_iload hx hb dX4_fails_129 (lv_at hl 5 rfl) ?_
                refine nv_top (y := ((iI (flS (AL S) v x i : Nat)))) (iI_nI _) ?_
                refine lv_bipush (v := nI 10) hx hb dX4_fails_131 (by decide) ?_
                refine lv_iload hx hb dX4_fails_133 (lv_at hl 4 rfl) ?_
                refine cl_ip (cl_runS (rest := [.int (iI (flS (AL S) v x i : Nat))]) F hW e_X4_247 (c_power hI l 10 (pop (LU (AL S))) (by have := pop_le (LU (AL S)); omega)) ⟨Nat.le_of_ble_eq_true rfl, Nat.le_of_ble_eq_true rfl⟩ rfl rfl hl (Nat.le_of_ble_eq_true rfl) dX4_fails_135 ⟨Nat.zero_le _, Nat.zero_le _⟩) hW (fun H locs hW => ?_)
                refine lv_iload_n hx hb dX4_fails_138 rfl (lv_at hl 3 rfl) ?_
                refine cl_ip (cl_runS (rest := []) F hW e_X4_230 (c_partOfFraction hI l (flS (AL S) v x i : Nat) (10 ^ pop (LU (AL S))) up (by omega) (by have := flS_le (v := v) (x := x) hU6 (by omega) i (by omega); omega) (Nat.pow_pos (by decide)) (by have := Nat.pow_le_pow_right (show 0 < 10 by decide) (pop_le (LU (AL S))); omega)) ⟨Nat.le_of_ble_eq_true rfl, Nat.le_of_ble_eq_true rfl⟩ rfl rfl hl (Nat.le_of_ble_eq_true rfl) dX4_fails_139 ⟨Nat.zero_le _, Nat.zero_le _⟩) hW (fun H locs hW => ?_)
                have hoz : off 10 7 μ μ1 := (fun z hz => by rw [ho1 z (by omega)])
                exact rt_ie F hr hlk hW (by unfold r_fails; rw [inR_j hv7 (by omega), inR_j hx11 (by omega), nI_clamp (by omega), nI_clamp (by omega), show 2 ^ Ln (AL S) = i by omega]; rfl) ⟨mainR_trial hM hoz ⟨_, hLi⟩, off_big hoz (by omega)⟩ dX4_fails_142
              · skip
                exact absurd c_5 (by omega)
            | succ d ih =>
              intro i LT1 μ1 H locs ls hid hLi ho1 hW hl
              have p0 := (ho1 0 (by omega)).trans m0
              have p3 := (ho1 3 (by omega)).trans o3
              have p117 := (ho1 117 (by omega)).trans o117
              obtain ⟨_, _, _, _, _, _, p10, -⟩ := id hLi
              have hLx := laneR_off hL ho1 (by omega)
              refine lv_iload hx hb dX4_fails_41 (lv_at hl 6 rfl) ?_
              refine lv_iconst (v := nI 1) hx hb dX4_fails_43 (by decide) ?_
              refine lv_aload_n hx hb dX4_fails_44 rfl (lv_at hl 0 rfl) ?_
              refine nv_get F hW (by omega) p0 rfl iX4 1 (by decide) tw_149 rfl dX4_fails_45 ?_
              refine cl_ip (cl_run (rest := [.int (nI 1), .int (nI i)]) F hW e_X4_68 (c_size hI l h3b hLx hk) ⟨Nat.le_of_ble_eq_true rfl, Nat.le_of_ble_eq_true rfl⟩ (by omega) p3 rfl rfl rfl hl (Nat.le_of_ble_eq_true rfl) dX4_fails_48 ⟨Nat.zero_le _, Nat.zero_le _⟩) hW (fun H locs hW => ?_)
              refine nv_shl F (by omega) (by rw [Nat.one_mul]; omega) dX4_fails_51 ?_
              refine nv_top (y := ((nI (2 ^ Ln (AL S))))) (by rw [Nat.one_mul]) ?_
              refine nv_cge (tgt := 129) F (by omega) (by omega) dX4_fails_52 (by decide) (fun c_6 => ?_) (fun c_6 => ?_)
              · skip
                exact absurd c_6 (by omega)
              · skip
                refine lv_iload hx hb dX4_fails_55 (lv_at hl 6 rfl) ?_
                refine lv_aload_n hx hb dX4_fails_57 rfl (lv_at hl 0 rfl) ?_
                refine nv_get F hW (by omega) p0 rfl iX4 1 (by decide) tw_149 rfl dX4_fails_58 ?_
                refine cl_ip (cl_run (rest := [.int (nI i)]) F hW e_X4_145 (c_standingBits hI l h3b hLx hk) ⟨Nat.le_of_ble_eq_true rfl, Nat.le_of_ble_eq_true rfl⟩ (by omega) p3 rfl rfl rfl hl (Nat.le_of_ble_eq_true rfl) dX4_fails_61 ⟨Nat.zero_le _, Nat.zero_le _⟩) hW (fun H locs hW => ?_)
                refine lv_iconst (v := (-1)) hx hb dX4_fails_64 (by decide) ?_
                refine lv_ixor hx hb dX4_fails_65 ?_
                refine lv_iand hx hb dX4_fails_66 ?_
                refine nv_top (y := ((nI (bitsOf (fun h => i.testBit h && !(LU (AL S)).testBit h) 6)))) (andnot _ (by omega) _ hU6) ?_
                refine nv_zne (tgt := 74) F (by have := bitsOf_lt (fun h => i.testBit h && !(LU (AL S)).testBit h) 6; omega) dX4_fails_67 (by decide) (fun c_7 => ?_) (fun c_7 => ?_)
                · skip
                  have hsb : sbB (LU (AL S)) i = false := decide_eq_false (by assumption)
                  refine lv_iconst (v := nI 0) hx hb dX4_fails_74 (by decide) ?_
                  refine lv_istore (lv' := [(7, .int (nI 0)), (0, .ref (xa cx 0)), (1, .int (nI v)), (2, .int (nI x)), (3, .int (b2 up)), (4, .int (nI (pop (LU (AL S))))), (5, .int (nI (flS (AL S) v x i))), (6, .int (nI i))]) hx hb dX4_fails_75 hl (by decide) rfl (fun ls hl => ?_)
                  refine lv_iload hx hb dX4_fails_77 (lv_at hl 0 rfl) ?_
                  refine nv_zeq (tgt := 123) F (by decide) dX4_fails_79 (by decide) (fun c_8 => ?_) (fun c_8 => ?_)
                  · skip
                    refine lv_iinc (v := ((nI (i + 1)))) (lv' := [(6, .int (nI (i + 1))), (7, .int (nI 0)), (0, .ref (xa cx 0)), (1, .int (nI v)), (2, .int (nI x)), (3, .int (b2 up)), (4, .int (nI (pop (LU (AL S))))), (5, .int (nI (flS (AL S) v x i)))]) hx hb dX4_fails_123 hl (k := 7) rfl (nI_add _ _) (by decide) rfl (fun ls hl => ?_)
                    refine lv_goto (tgt := 41) hx hb dX4_fails_126 (by decide) ?_
                    have hfb : flB (AL S) v i = false := by unfold flB; first | (rw [hsb]; rfl) | (rw [decide_eq_false (by omega), Bool.and_false])
                    have e1 : flS (AL S) v x (i + 1) = flS (AL S) v x i := by show _ + (if flB (AL S) v i = true then flT (LU (AL S)) x i else 0) = _; rw [if_neg (by rw [hfb]; decide)]; rfl
                    exact ih (i + 1) _ μ1 _ _ _ (by omega) hLi (fun z hz => by rw [ho1 z (by omega)]) hW (by rw [e1]; exact lv_sub hl [2, 3, 4, 5, 6, 7, 0] rfl)
                  · skip
                    exact absurd c_8 (by decide)
                · skip
                  have hsb : sbB (LU (AL S)) i = true := decide_eq_true (by assumption)
                  refine lv_iconst (v := nI 1) hx hb dX4_fails_70 (by decide) ?_
                  refine lv_goto (tgt := 75) hx hb dX4_fails_71 (by decide) ?_
                  refine lv_istore (lv' := [(7, .int (nI 1)), (0, .ref (xa cx 0)), (1, .int (nI v)), (2, .int (nI x)), (3, .int (b2 up)), (4, .int (nI (pop (LU (AL S))))), (5, .int (nI (flS (AL S) v x i))), (6, .int (nI i))]) hx hb dX4_fails_75 hl (by decide) rfl (fun ls hl => ?_)
                  refine lv_iload hx hb dX4_fails_77 (lv_at hl 0 rfl) ?_
                  refine nv_zeq (tgt := 123) F (by decide) dX4_fails_79 (by decide) (fun c_9 => ?_) (fun c_9 => ?_)
                  · skip
                    exact absurd c_9 (by decide)
                  · skip
                    refine lv_aload_n hx hb dX4_fails_82 rfl (lv_at hl 1 rfl) ?_
                    refine lv_iload hx hb dX4_fails_83 (lv_at hl 7 rfl) ?_
                    refine cl_ie (cl_run (rest := []) F hW e_X4_244 (c_standingWithFailed hI l hN (mainR_trial hM (fun z hz => by rw [ho1 z (by omega)]) ⟨_, hLi⟩) hA hB i (by omega)) ⟨Nat.le_of_ble_eq_true rfl, Nat.le_of_ble_eq_true rfl⟩ (by omega) p0 rfl rfl rfl hl (Nat.le_of_ble_eq_true rfl) dX4_fails_85 ⟨Nat.zero_le _, Nat.zero_le _⟩) hW (fun μ10 H locs q_10 hW => ?_)
                    obtain ⟨⟨L1_10, hL_10⟩, ho_10⟩ := q_10
                    obtain ⟨_, _, _, _, _, _, o10_10, -⟩ := id hL_10
                    have o0_10 := (ho_10 0 (by omega)).trans p0
                    have o3_10 := (ho_10 3 (by omega)).trans p3
                    have o117_10 := (ho_10 117 (by omega)).trans p117
                    have hLx3_10 := laneR_off hLx ho_10 (by omega)
                    refine lv_iload_n hx hb dX4_fails_88 rfl (lv_at hl 2 rfl) ?_
                    refine nv_clt (tgt := 123) F (by have := pop_le (LU (hrs 3 (failL (AL S) i))); unfold stF; omega) (by omega) dX4_fails_89 (by decide) (fun c_11 => ?_) (fun c_11 => ?_)
                    · skip
                      refine lv_iinc (v := ((nI (i + 1)))) (lv' := [(6, .int (nI (i + 1))), (7, .int (nI 1)), (0, .ref (xa cx 0)), (1, .int (nI v)), (2, .int (nI x)), (3, .int (b2 up)), (4, .int (nI (pop (LU (AL S))))), (5, .int (nI (flS (AL S) v x i)))]) hx hb dX4_fails_123 hl (k := 7) rfl (nI_add _ _) (by decide) rfl (fun ls hl => ?_)
                      refine lv_goto (tgt := 41) hx hb dX4_fails_126 (by decide) ?_
                      have hfb : flB (AL S) v i = false := by unfold flB; first | (rw [hsb]; rfl) | (rw [decide_eq_false (by omega), Bool.and_false])
                      have e1 : flS (AL S) v x (i + 1) = flS (AL S) v x i := by show _ + (if flB (AL S) v i = true then flT (LU (AL S)) x i else 0) = _; rw [if_neg (by rw [hfb]; decide)]; rfl
                      exact ih (i + 1) _ μ10 _ _ _ (by omega) hL_10 (fun z hz => by rw [ho_10 z (by omega)]; rw [ho1 z (by omega)]) hW (by rw [e1]; exact lv_sub hl [2, 3, 4, 5, 6, 7, 0] rfl)
                    · skip
                      refine lv_iload hx hb dX4_fails_92 (lv_at hl 7 rfl) ?_
                      refine cl_ip (cl_runS (rest := []) F hW e_X4_219 (c_bitCount hI l i (by omega)) ⟨Nat.le_of_ble_eq_true rfl, Nat.le_of_ble_eq_true rfl⟩ rfl rfl hl (Nat.le_of_ble_eq_true rfl) dX4_fails_94 ⟨Nat.zero_le _, Nat.zero_le _⟩) hW (fun H locs hW => ?_)
                      refine lv_istore (lv' := [(8, .int (nI (pop i))), (7, .int (nI 1)), (0, .ref (xa cx 0)), (1, .int (nI v)), (2, .int (nI x)), (3, .int (b2 up)), (4, .int (nI (pop (LU (AL S))))), (5, .int (nI (flS (AL S) v x i))), (6, .int (nI i))]) hx hb dX4_fails_97 hl (by decide) rfl (fun ls hl => ?_)
                      refine lv_iload hx hb dX4_fails_99 (lv_at hl 7 rfl) ?_
                      refine lv_iload_n hx hb dX4_fails_101 rfl (lv_at hl 4 rfl) ?_
                      refine lv_iload hx hb dX4_fails_102 (lv_at hl 0 rfl) ?_
                      refine cl_ip (cl_runS (rest := [.int (nI (flS (AL S) v x i))]) F hW e_X4_247 (c_power hI l x (pop i) (by have := pop_le i; have := pop_le (LU (AL S)); omega)) ⟨Nat.le_of_ble_eq_true rfl, Nat.le_of_ble_eq_true rfl⟩ rfl rfl hl (Nat.le_of_ble_eq_true rfl) dX4_fails_104 ⟨Nat.zero_le _, Nat.zero_le _⟩) hW (fun H locs hW => ?_)
                      refine lv_bipush (v := nI 10) hx hb dX4_fails_107 (by decide) ?_
                      refine lv_iload_n hx hb dX4_fails_109 rfl (lv_at hl 4 rfl) ?_
                      refine nv_sub F (by omega) dX4_fails_110 ?_
                      refine lv_iload hx hb dX4_fails_111 (lv_at hl 6 rfl) ?_
                      refine lv_iload hx hb dX4_fails_113 (lv_at hl 0 rfl) ?_
                      refine nv_sub F (sb_pop _ hU6 i (by omega) hsb) dX4_fails_115 ?_
                      refine cl_ip (cl_runS (rest := [.int (nI (x ^ (pop i))), .int (nI (flS (AL S) v x i))]) F hW e_X4_247 (c_power hI l (10 - x) ((pop (LU (AL S))) - (pop i)) (by have := pop_le i; have := pop_le (LU (AL S)); omega)) ⟨Nat.le_of_ble_eq_true rfl, Nat.le_of_ble_eq_true rfl⟩ rfl rfl hl (Nat.le_of_ble_eq_true rfl) dX4_fails_116 ⟨Nat.zero_le _, Nat.zero_le _⟩) hW (fun H locs hW => ?_)
                      refine nv_mul F dX4_fails_119 ?_
                      refine nv_add F dX4_fails_120 ?_
                      refine lv_istore (lv' := [(5, .int (nI ((flS (AL S) v x i) + ((x ^ (pop i)) * ((10 - x) ^ ((pop (LU (AL S))) - (pop i))))))), (8, .int (nI (pop i))), (7, .int (nI 1)), (0, .ref (xa cx 0)), (1, .int (nI v)), (2, .int (nI x)), (3, .int (b2 up)), (4, .int (nI (pop (LU (AL S))))), (6, .int (nI i))]) hx hb dX4_fails_121 hl (by decide) rfl (fun ls hl => ?_)
                      refine lv_iinc (v := ((nI (i + 1)))) (lv' := [(6, .int (nI (i + 1))), (5, .int (nI ((flS (AL S) v x i) + ((x ^ (pop i)) * ((10 - x) ^ ((pop (LU (AL S))) - (pop i))))))), (8, .int (nI (pop i))), (7, .int (nI 1)), (0, .ref (xa cx 0)), (1, .int (nI v)), (2, .int (nI x)), (3, .int (b2 up)), (4, .int (nI (pop (LU (AL S)))))]) hx hb dX4_fails_123 hl (k := 8) rfl (nI_add _ _) (by decide) rfl (fun ls hl => ?_)
                      refine lv_goto (tgt := 41) hx hb dX4_fails_126 (by decide) ?_
                      have hfb : flB (AL S) v i = true := by unfold flB; rw [hsb, decide_eq_true (by omega)]; rfl
                      have e1 : flS (AL S) v x (i + 1) = (flS (AL S) v x i) + ((x ^ (pop i)) * ((10 - x) ^ ((pop (LU (AL S))) - (pop i)))) := by show _ + (if flB (AL S) v i = true then flT (LU (AL S)) x i else 0) = _; rw [if_pos hfb]; rfl
                      exact ih (i + 1) _ μ10 _ _ _ (by omega) hL_10 (fun z hz => by rw [ho_10 z (by omega)]; rw [ho1 z (by omega)]) hW (by rw [e1]; exact lv_sub hl [4, 5, 6, 7, 8, 1, 0] rfl)
          exact LOOP (2 ^ Ln (AL S)) 0 LT μ _ _ _ (by omega) hLT off_rf hW (lv_sub hl [3, 4, 5, 6, 2, 1, 0] rfl)
        · skip
          refine lv_bipush (v := (-2)) hx hb dX4_fails_20 (by decide) ?_
          exact rt_ie F hr hlk hW (by unfold r_fails; rw [show (inR vv 7 && inR xx 11) = false by first | (rw [inR_neg (by assumption)]; rfl) | (rw [le_hi (k := 6) (by omega) (by assumption)]; rfl) | (rw [show inR xx 11 = false by first | exact inR_neg (by assumption) | exact le_hi (k := 10) (by omega) (nle_lt (by assumption)), Bool.and_false])]; rfl) ⟨hM, off_rf⟩ dX4_fails_22

def sd (x : Int64) : Nat → Int64
  | 0 => x
  | k + 1 => sd x k * lN 6364136223846793005 + lN 1442695040888963407
def lotI (x : Int64) : Int32 := ((x.toUInt64 >>> ((nI 33).toInt64.toUInt64 &&& Int64.toUInt64 63)).toInt64 - (x.toUInt64 >>> ((nI 33).toInt64.toUInt64 &&& Int64.toUInt64 63)).toInt64 / lN 40 * lN 40).toInt32
def lotN (x : Int64) : Nat := x.toBitVec.toNat / 8589934592 % 40
theorem lot_eq (x : Int64) : lotI x = nI (lotN x) := by
  have e1 : (x.toUInt64 >>> ((nI 33).toInt64.toUInt64 &&& Int64.toUInt64 63)).toInt64 = lN (x.toBitVec.toNat / 8589934592) := by
    have hs : ((nI 33).toInt64.toUInt64 &&& Int64.toUInt64 63) = (33 : UInt64) := by decide
    rw [hs]
    apply Int64.toBitVec_inj.1
    show x.toBitVec >>> ((33 : UInt64).toBitVec % 64) = BitVec.ofNat 64 (x.toBitVec.toNat / 8589934592)
    apply BitVec.eq_of_toNat_eq
    rw [show ((33 : UInt64).toBitVec % 64) = 33#64 from by decide]
    simp only [BitVec.ushiftRight_eq', BitVec.toNat_ushiftRight, BitVec.toNat_ofNat, Nat.shiftRight_eq_div_pow]
    have := x.toBitVec.isLt
    rw [Nat.mod_eq_of_lt (show 33 < 2 ^ 64 by decide)]
    rw [show (2 : Nat) ^ 33 = 8589934592 from rfl, Nat.mod_eq_of_lt (by omega)]
  unfold lotI
  have hb := x.toBitVec.isLt
  rw [e1, pk_lRem (by omega) (by decide) (by decide), lN_i]
  rfl
theorem lotN_lt (x : Int64) : lotN x < 40 := Nat.mod_lt _ (by decide)
def plY (L : LN) (q : Nat) : LN := if q < 12 then addS L (q / 2) (1 + q % 2) else if q < 18 then subS L (q - 12) 1 else if q < 36 then setD L ((q - 18) / 3) ((q - 18) % 3) else hour L
theorem lok_plY {L : LN} {B : Nat} (hk : lok L B) (q : Nat) : lok (plY L q) (B + 600) := by
  unfold plY
  split
  · exact lok_mono (lok_addS hk _ _) (by omega)
  · split
    · exact lok_mono (lok_subS hk _ _) (by omega)
    · split
      · exact lok_mono (lok_setD hk _ _) (by omega)
      · exact lok_hour hk
def yrL (L : LN) (x : Int64) : Nat → LN
  | 0 => L
  | k + 1 => plY (yrL L x k) (lotN (sd x (k + 1)))
theorem lok_yrL {L : LN} {B : Nat} (hk : lok L B) (x : Int64) (k : Nat) : lok (yrL L x k) (B + 600 * k) := by
  induction k with
  | zero => exact hk
  | succ k ih =>
    have := lok_plY ih (lotN (sd x (k + 1)))
    rw [show B + 600 * (k + 1) = B + 600 * k + 600 by omega]
    exact this
def yrS (L : LN) (x : Int64) : Nat → Nat
  | 0 => 0
  | k + 1 => yrS L x k + pop (LU (yrL L x (k + 1)))
theorem yrS_le (L : LN) (x : Int64) (k : Nat) : yrS L x k ≤ 6 * k := by
  induction k with
  | zero => exact Nat.le_refl _
  | succ k ih =>
    have := pop_le (LU (yrL L x (k + 1)))
    show yrS L x k + _ ≤ _
    omega
def c30 (x : Int32) : Bool := decide (1 ≤ x.toInt ∧ x.toInt ≤ 30)
def r_years (S : AS) (m : Int32) : Int32 := if c30 m then nI (yrS (AL S) (Ad S) m.toNatClampNeg) else -2
def s_years (S : AS) (m : Int32) : AS := if c30 m then uD S (sd (Ad S) m.toNatClampNeg) else S
theorem c30_of {v : Int32} (h : c30 v = true) : ∃ j : Nat, 1 ≤ j ∧ j ≤ 30 ∧ v = nI j := by
  have h2 := of_decide_eq_true h
  obtain ⟨j, hj, rfl⟩ := vp_in_of (x := v) (n := 40) (vp_in_iff.mpr (by omega)) (by decide)
  rw [nI_toInt (by omega)] at h2
  exact ⟨j, by omega, by omega, rfl⟩
theorem c30_nI {v : Nat} (h1 : 1 ≤ v) (h4 : v ≤ 30) : c30 (nI v) = true := by
  apply decide_eq_true
  rw [nI_toInt (by omega)]
  omega
theorem c30_lo {v : Int32} (c : v < nI 1) : c30 v = false := by
  rw [Int32.lt_iff_toInt_lt, nI_toInt (by decide)] at c
  apply decide_eq_false
  omega
theorem c30_hi {v : Int32} (c : ¬ v ≤ nI 30) : c30 v = false := by
  rw [Int32.le_iff_toInt_le, nI_toInt (by decide)] at c
  apply decide_eq_false
  omega
theorem c30_in {v : Int32} (c : ¬ v < nI 1) (d : v ≤ nI 30) : c30 v = true := by
  rw [Int32.lt_iff_toInt_lt, nI_toInt (by decide)] at c
  rw [Int32.le_iff_toInt_le, nI_toInt (by decide)] at d
  apply decide_eq_true
  omega
theorem mk_uD {cx : CX} {μ : ME} {S : AS} {d : Int64} (h0 : μ 0 = .inr (4, [.ref (xa cx 1), .ref (xa cx 3), .ref (xa cx 10), .ref (xa cx 17), .ref (xa cx 117), .ref (xa cx 121), .int (nI (Ak S)), .long d])) (hT : textR cx μ 1 (At S) (An S)) (hL : laneR cx μ 3 (AL S)) (hLT : ∃ LT, laneR cx μ 10 LT) (hP : pastR cx μ 17 (Az S) (AP S)) (hS : seenR cx μ 117 (Ah S) (Ao S) (Ab S) (Ay S)) (hK : slotR cx μ (Ak S) (AK S)) : mainR cx μ (uD S d) := ⟨h0, hT, hL, hLT, hP, hS, hK⟩
theorem aok_uD {S : AS} {B : Nat} {d : Int64} (h : aok S B) : aok (uD S d) B := h

set_option maxHeartbeats 4000000 in
set_option maxRecDepth 100000 in
theorem c_playYear {cx : CX} (hI : xI cx) (l : Launch) {μ : ME} {S : AS} {B : Nat} (hN : 136 ≤ xN cx) (hM : mainR cx μ S) (hA : aok S B) (hB : B < 800000) {LT : LN} {BT : Nat} (hLT : laneR cx μ 10 LT) (hkT : lok LT BT) (hBT : BT < 820000) (q : Nat) (hq : q < 40) : MT cx l yX4_playYear cX4_playYear 2 none 3 115 [.ref (xa cx 0), .int (nI q)] μ (Qv cx (fun μ1 => laneR cx μ1 10 (plY LT q) ∧ off 10 7 μ μ1)) := by
  refine mt_of hI (by decide) (Nat.le_of_ble_eq_true rfl) ?_
  intro p e s m below meth c ls F hr hlk hW hl
  have hx := F.1.1
  have hb := F.1.2.1
  have hts := F.1.2.2.2.2
  obtain ⟨m0, hT, hL, -, hPa, hSe, hSl⟩ := id hM
  have hk := hA.2.1
  have hn6 := hk.1
  have h3b : 3 + 7 ≤ xN cx := by omega
  have h10b : 10 + 7 ≤ xN cx := by omega
  obtain ⟨_, _, _, _, _, _, o3, -⟩ := id hL
  obtain ⟨_, _, _, _, _, _, o10, -⟩ := id hLT
  obtain ⟨_, o1, -⟩ := id hT
  obtain ⟨_, _, o17, -⟩ := id hPa
  obtain ⟨_, _, _, o117, -⟩ := id hSe
  obtain ⟨⟨gs, o121, hgs⟩, hsl2, hsl3⟩ := id hSl
  have hl : lv_has ls 2 [(0, .ref (xa cx 0)), (1, .int (nI q))] := hl
  refine lv_iload_n hx hb dX4_playYear_0 rfl (lv_at hl 1 rfl) ?_
  refine lv_bipush (v := nI 12) hx hb dX4_playYear_1 (by decide) ?_
  refine nv_cge (tgt := 25) F (by omega) (by omega) dX4_playYear_3 (by decide) (fun c_1 => ?_) (fun c_1 => ?_)
  · skip
    refine lv_iload_n hx hb dX4_playYear_25 rfl (lv_at hl 1 rfl) ?_
    refine lv_bipush (v := nI 18) hx hb dX4_playYear_26 (by decide) ?_
    refine nv_cge (tgt := 47) F (by omega) (by omega) dX4_playYear_28 (by decide) (fun c_2 => ?_) (fun c_2 => ?_)
    · skip
      refine lv_iload_n hx hb dX4_playYear_47 rfl (lv_at hl 1 rfl) ?_
      refine lv_bipush (v := nI 36) hx hb dX4_playYear_48 (by decide) ?_
      refine nv_cge (tgt := 76) F (by omega) (by omega) dX4_playYear_50 (by decide) (fun c_3 => ?_) (fun c_3 => ?_)
      · skip
        refine lv_aload_n hx hb dX4_playYear_76 rfl (lv_at hl 0 rfl) ?_
        refine nv_get F hW (by omega) m0 rfl iX4 2 (by decide) tw_150 rfl dX4_playYear_77 ?_
        refine cl_ie (cl_run (rest := []) F hW e_X4_103 (c_passHour hI l h10b hLT hkT (by omega)) ⟨Nat.le_of_ble_eq_true rfl, Nat.le_of_ble_eq_true rfl⟩ (by omega) o10 rfl rfl rfl hl (Nat.le_of_ble_eq_true rfl) dX4_playYear_80 ⟨Nat.zero_le _, Nat.zero_le _⟩) hW (fun μ4 H locs q_4 hW => ?_)
        obtain ⟨hL_4, ho_4⟩ := q_4
        obtain ⟨_, _, _, _, _, _, o10_4, -⟩ := id hL_4
        have hk_4 := lok_hour hkT
        have o0_4 := (ho_4 0 (by omega)).trans m0
        have o1_4 := (ho_4 1 (by omega)).trans o1
        have o3_4 := (ho_4 3 (by omega)).trans o3
        have o17_4 := (ho_4 17 (by omega)).trans o17
        have o117_4 := (ho_4 117 (by omega)).trans o117
        have o121_4 := (ho_4 121 (by omega)).trans o121
        have hLx3_4 := laneR_off hL ho_4 (by omega)
        refine lv_pop hx hb dX4_playYear_83 rfl ?_
        exact rt_v F hr hlk hW ⟨by unfold plY; first | (rw [if_pos (by omega)]; exact hL_4) | (rw [if_neg (by omega), if_pos (by omega)]; exact hL_4) | (rw [if_neg (by omega), if_neg (by omega), if_pos (by omega)]; exact hL_4) | (rw [if_neg (by omega), if_neg (by omega), if_neg (by omega)]; exact hL_4), (fun z hz => by rw [ho_4 z (by omega)])⟩ dX4_playYear_84
      · skip
        refine lv_aload_n hx hb dX4_playYear_53 rfl (lv_at hl 0 rfl) ?_
        refine nv_get F hW (by omega) m0 rfl iX4 2 (by decide) tw_150 rfl dX4_playYear_54 ?_
        refine lv_iload_n hx hb dX4_playYear_57 rfl (lv_at hl 1 rfl) ?_
        refine lv_bipush (v := nI 18) hx hb dX4_playYear_58 (by decide) ?_
        refine nv_sub F (by omega) dX4_playYear_60 ?_
        refine lv_iconst (v := nI 3) hx hb dX4_playYear_61 (by decide) ?_
        refine nv_div F (by omega) (by omega) (by omega) dX4_playYear_62 ?_
        refine lv_iload_n hx hb dX4_playYear_63 rfl (lv_at hl 1 rfl) ?_
        refine lv_bipush (v := nI 18) hx hb dX4_playYear_64 (by decide) ?_
        refine nv_sub F (by omega) dX4_playYear_66 ?_
        refine lv_iconst (v := nI 3) hx hb dX4_playYear_67 (by decide) ?_
        refine nv_rem F (by omega) (by omega) (by omega) dX4_playYear_68 ?_
        refine cl_ie (cl_run (rest := []) F hW e_X4_125 (c_writeDeed hI l h10b hLT hkT ((q - 18) / 3) ((q - 18) % 3) (by omega) (by omega)) ⟨Nat.le_of_ble_eq_true rfl, Nat.le_of_ble_eq_true rfl⟩ (by omega) o10 rfl rfl rfl hl (Nat.le_of_ble_eq_true rfl) dX4_playYear_69 ⟨Nat.zero_le _, Nat.zero_le _⟩) hW (fun μ5 H locs q_5 hW => ?_)
        obtain ⟨hL_5, ho_5⟩ := q_5
        obtain ⟨_, _, _, _, _, _, o10_5, -⟩ := id hL_5
        have hk_5 := lok_setD hkT ((q - 18) / 3) ((q - 18) % 3)
        have o0_5 := (ho_5 0 (by omega)).trans m0
        have o1_5 := (ho_5 1 (by omega)).trans o1
        have o3_5 := (ho_5 3 (by omega)).trans o3
        have o17_5 := (ho_5 17 (by omega)).trans o17
        have o117_5 := (ho_5 117 (by omega)).trans o117
        have o121_5 := (ho_5 121 (by omega)).trans o121
        have hLx3_5 := laneR_off hL ho_5 (by omega)
        refine lv_pop hx hb dX4_playYear_72 rfl ?_
        refine lv_goto (tgt := 84) hx hb dX4_playYear_73 (by decide) ?_
        exact rt_v F hr hlk hW ⟨by unfold plY; first | (rw [if_pos (by omega)]; exact hL_5) | (rw [if_neg (by omega), if_pos (by omega)]; exact hL_5) | (rw [if_neg (by omega), if_neg (by omega), if_pos (by omega)]; exact hL_5) | (rw [if_neg (by omega), if_neg (by omega), if_neg (by omega)]; exact hL_5), (fun z hz => by rw [ho_5 z (by omega)])⟩ dX4_playYear_84
    · skip
      refine lv_aload_n hx hb dX4_playYear_31 rfl (lv_at hl 0 rfl) ?_
      refine nv_get F hW (by omega) m0 rfl iX4 2 (by decide) tw_150 rfl dX4_playYear_32 ?_
      refine lv_iload_n hx hb dX4_playYear_35 rfl (lv_at hl 1 rfl) ?_
      refine lv_bipush (v := nI 12) hx hb dX4_playYear_36 (by decide) ?_
      refine nv_sub F (by omega) dX4_playYear_38 ?_
      refine lv_iconst (v := nI 1) hx hb dX4_playYear_39 (by decide) ?_
      refine cl_ie (cl_run (rest := []) F hW e_X4_119 (c_removeStones hI l h10b hLT hkT (q - 12) 1 (by omega) (by omega)) ⟨Nat.le_of_ble_eq_true rfl, Nat.le_of_ble_eq_true rfl⟩ (by omega) o10 rfl rfl rfl hl (Nat.le_of_ble_eq_true rfl) dX4_playYear_40 ⟨Nat.zero_le _, Nat.zero_le _⟩) hW (fun μ6 H locs q_6 hW => ?_)
      obtain ⟨hL_6, ho_6⟩ := q_6
      obtain ⟨_, _, _, _, _, _, o10_6, -⟩ := id hL_6
      have hk_6 := lok_subS hkT (q - 12) 1
      have o0_6 := (ho_6 0 (by omega)).trans m0
      have o1_6 := (ho_6 1 (by omega)).trans o1
      have o3_6 := (ho_6 3 (by omega)).trans o3
      have o17_6 := (ho_6 17 (by omega)).trans o17
      have o117_6 := (ho_6 117 (by omega)).trans o117
      have o121_6 := (ho_6 121 (by omega)).trans o121
      have hLx3_6 := laneR_off hL ho_6 (by omega)
      refine lv_pop hx hb dX4_playYear_43 rfl ?_
      refine lv_goto (tgt := 84) hx hb dX4_playYear_44 (by decide) ?_
      exact rt_v F hr hlk hW ⟨by unfold plY; first | (rw [if_pos (by omega)]; exact hL_6) | (rw [if_neg (by omega), if_pos (by omega)]; exact hL_6) | (rw [if_neg (by omega), if_neg (by omega), if_pos (by omega)]; exact hL_6) | (rw [if_neg (by omega), if_neg (by omega), if_neg (by omega)]; exact hL_6), (fun z hz => by rw [ho_6 z (by omega)])⟩ dX4_playYear_84
  · skip
    refine lv_aload_n hx hb dX4_playYear_6 rfl (lv_at hl 0 rfl) ?_
    refine nv_get F hW (by omega) m0 rfl iX4 2 (by decide) tw_150 rfl dX4_playYear_7 ?_
    refine lv_iload_n hx hb dX4_playYear_10 rfl (lv_at hl 1 rfl) ?_
    refine lv_iconst (v := nI 2) hx hb dX4_playYear_11 (by decide) ?_
    refine nv_div F (by omega) (by omega) (by omega) dX4_playYear_12 ?_
    refine lv_iconst (v := nI 1) hx hb dX4_playYear_13 (by decide) ?_
    refine lv_iload_n hx hb dX4_playYear_14 rfl (lv_at hl 1 rfl) ?_
    refine lv_iconst (v := nI 2) hx hb dX4_playYear_15 (by decide) ?_
    refine nv_rem F (by omega) (by omega) (by omega) dX4_playYear_16 ?_
    refine nv_add F dX4_playYear_17 ?_
    refine cl_ie (cl_run (rest := []) F hW e_X4_113 (c_addStones hI l h10b hLT hkT (q / 2) (1 + (q % 2)) (by omega) (by omega)) ⟨Nat.le_of_ble_eq_true rfl, Nat.le_of_ble_eq_true rfl⟩ (by omega) o10 rfl rfl rfl hl (Nat.le_of_ble_eq_true rfl) dX4_playYear_18 ⟨Nat.zero_le _, Nat.zero_le _⟩) hW (fun μ7 H locs q_7 hW => ?_)
    obtain ⟨hL_7, ho_7⟩ := q_7
    obtain ⟨_, _, _, _, _, _, o10_7, -⟩ := id hL_7
    have hk_7 := lok_addS hkT (q / 2) (1 + (q % 2))
    have o0_7 := (ho_7 0 (by omega)).trans m0
    have o1_7 := (ho_7 1 (by omega)).trans o1
    have o3_7 := (ho_7 3 (by omega)).trans o3
    have o17_7 := (ho_7 17 (by omega)).trans o17
    have o117_7 := (ho_7 117 (by omega)).trans o117
    have o121_7 := (ho_7 121 (by omega)).trans o121
    have hLx3_7 := laneR_off hL ho_7 (by omega)
    refine lv_pop hx hb dX4_playYear_21 rfl ?_
    refine lv_goto (tgt := 84) hx hb dX4_playYear_22 (by decide) ?_
    exact rt_v F hr hlk hW ⟨by unfold plY; first | (rw [if_pos (by omega)]; exact hL_7) | (rw [if_neg (by omega), if_pos (by omega)]; exact hL_7) | (rw [if_neg (by omega), if_neg (by omega), if_pos (by omega)]; exact hL_7) | (rw [if_neg (by omega), if_neg (by omega), if_neg (by omega)]; exact hL_7), (fun z hz => by rw [ho_7 z (by omega)])⟩ dX4_playYear_84

set_option maxHeartbeats 4000000 in
set_option maxRecDepth 100000 in
theorem k_years {cx : CX} (hI : xI cx) (l : Launch) {μ : ME} {S : AS} {B : Nat} (hN : 136 ≤ xN cx) (hM : mainR cx μ S) (hA : aok S B) (hB : B < 800000) (n : Int32) : MT cx l yX4_years cX4_years 4 (some .int) 4 136 [.ref (xa cx 0), .int n] μ (Ei cx (r_years S n) (fun μ1 => mainR cx μ1 (s_years S n) ∧ off 0 136 μ μ1)) := by
  refine mt_of hI (by decide) (Nat.le_of_ble_eq_true rfl) ?_
  intro p e s m below meth c ls F hr hlk hW hl
  have hx := F.1.1
  have hb := F.1.2.1
  have hts := F.1.2.2.2.2
  obtain ⟨m0, hT, hL, ⟨LT, hLT⟩, hPa, hSe, hSl⟩ := id hM
  have hk := hA.2.1
  have hn6 := hk.1
  have h3b : 3 + 7 ≤ xN cx := by omega
  have h10b : 10 + 7 ≤ xN cx := by omega
  obtain ⟨_, _, _, _, _, _, o3, -⟩ := id hL
  obtain ⟨_, _, _, _, _, _, o10, -⟩ := id hLT
  obtain ⟨_, o1, -⟩ := id hT
  obtain ⟨_, _, o17, -⟩ := id hPa
  obtain ⟨_, _, _, o117, -⟩ := id hSe
  obtain ⟨⟨gs, o121, hgs⟩, hsl2, hsl3⟩ := id hSl
  have hl : lv_has ls 4 [(0, .ref (xa cx 0)), (1, .int n)] := hl
  refine lv_iload_n hx hb dX4_years_0 rfl (lv_at hl 1 rfl) ?_
  refine lv_iconst (v := nI 1) hx hb dX4_years_1 (by decide) ?_
  refine lv_icmp_lt (tgt := 11) hx hb dX4_years_2 (by decide) (fun c_1 => ?_) (fun c_1 => ?_)
  · skip
    refine lv_bipush (v := (-2)) hx hb dX4_years_11 (by decide) ?_
    have hbad : c30 n = false := by first | exact c30_lo (by assumption) | exact c30_hi (by assumption)
    exact rt_ie F hr hlk hW (by unfold r_years; rw [hbad]; rfl) ⟨by unfold s_years; rw [hbad]; exact hM, off_rf⟩ dX4_years_13
  · skip
    refine lv_iload_n hx hb dX4_years_5 rfl (lv_at hl 1 rfl) ?_
    refine lv_bipush (v := nI 30) hx hb dX4_years_6 (by decide) ?_
    refine lv_icmp_le (tgt := 14) hx hb dX4_years_8 (by decide) (fun c_2 => ?_) (fun c_2 => ?_)
    · skip
      obtain ⟨mm, hm1, hm30, rfl⟩ := c30_of (c30_in c_1 c_2)
      refine lv_aload_n hx hb dX4_years_14 rfl (lv_at hl 0 rfl) ?_
      refine nv_get F hW (by omega) m0 rfl iX4 2 (by decide) tw_150 rfl dX4_years_15 ?_
      refine lv_aload_n hx hb dX4_years_18 rfl (lv_at hl 0 rfl) ?_
      refine nv_get F hW (by omega) m0 rfl iX4 1 (by decide) tw_149 rfl dX4_years_19 ?_
      refine cl_v (cl_run (rest := []) F hW e_X4_138 (c_copyFrom hI l h10b h3b (by omega) hLT hL (hk).1) ⟨Nat.le_of_ble_eq_true rfl, Nat.le_of_ble_eq_true rfl⟩ (by omega) o10 rfl rfl rfl hl (Nat.le_of_ble_eq_true rfl) dX4_years_22 ⟨Nat.zero_le _, Nat.zero_le _⟩) hW (fun μ3 H locs q_3 hW => ?_)
      obtain ⟨hL_3, ho_3⟩ := q_3
      obtain ⟨_, _, _, _, _, _, o10_3, -⟩ := id hL_3
      have hk_3 := hk
      have o0_3 := (ho_3 0 (by omega)).trans m0
      have o1_3 := (ho_3 1 (by omega)).trans o1
      have o3_3 := (ho_3 3 (by omega)).trans o3
      have o17_3 := (ho_3 17 (by omega)).trans o17
      have o117_3 := (ho_3 117 (by omega)).trans o117
      have o121_3 := (ho_3 121 (by omega)).trans o121
      have hLx3_3 := laneR_off hL ho_3 (by omega)
      refine lv_iconst (v := nI 0) hx hb dX4_years_25 (by decide) ?_
      refine lv_istore_n (lv' := [(2, .int (nI 0)), (0, .ref (xa cx 0)), (1, .int (nI mm))]) hx hb dX4_years_26 rfl hl (by decide) rfl (fun ls hl => ?_)
      refine lv_iconst (v := nI 0) hx hb dX4_years_27 (by decide) ?_
      refine lv_istore_n (lv' := [(3, .int (nI 0)), (2, .int (nI 0)), (0, .ref (xa cx 0)), (1, .int (nI mm))]) hx hb dX4_years_28 rfl hl (by decide) rfl (fun ls hl => ?_)
      have LOOP : ∀ (d i : Nat)  (μ1 : ME) (H : Heap) (locs : List Loc) (ls : Array Slot), i + d = mm → (mainR cx μ1 (uD S (sd (Ad S) i))) → (laneR cx μ1 10 (yrL (AL S) (Ad S) i)) → (off 0 136 μ μ1) → St cx s μ1 H locs → lv_has ls 4 [(0, .ref (xa cx 0)), (1, .int (nI mm)), (2, .int (nI (yrS (AL S) (Ad S) i))), (3, .int (nI i))] → W p l e { frames := 4, cells := 0, slots := 0, locals := 136 } s m [.ref (xa cx 0), .int (nI mm)].toArray below meth c H locs 0 0 (MQ below (Ei cx (r_years S (nI mm)) (fun μ1 => mainR cx μ1 (s_years S (nI mm)) ∧ off 0 136 μ μ1)) [.ref (xa cx 0), .int (nI mm)].toArray s 0 0 (xA cx)) (F0 m 29 ls []) := by
        intro d
        induction d with
        | zero =>
          intro i  μ1 H locs ls hid hMi hLi hoi hW hl
          obtain ⟨m0i, hTi, hL3i, -, hPai, hSei, hSli⟩ := id hMi
          obtain ⟨_, _, _, _, _, _, oi3, -⟩ := id hL3i
          obtain ⟨_, _, _, _, _, _, oi10, -⟩ := id hLi
          obtain ⟨_, oi1, -⟩ := id hTi
          obtain ⟨_, _, oi17, -⟩ := id hPai
          obtain ⟨_, _, _, oi117, -⟩ := id hSei
          obtain ⟨⟨_, oi121, -⟩, -⟩ := id hSli
          have hki := lok_yrL hk (Ad S) i
          refine lv_iload_n hx hb dX4_years_29 rfl (lv_at hl 3 rfl) ?_
          refine lv_iload_n hx hb dX4_years_30 rfl (lv_at hl 1 rfl) ?_
          refine nv_cge (tgt := 85) F (by omega) (by omega) dX4_years_31 (by decide) (fun c_4 => ?_) (fun c_4 => ?_)
          · skip
            refine lv_iload_n hx hb dX4_years_85 rfl (lv_at hl 2 rfl) ?_
            exact rt_ie F hr hlk hW (by unfold r_years; rw [c30_nI hm1 hm30, if_pos rfl, nI_clamp (by omega), show mm = i by omega]) ⟨by unfold s_years; rw [c30_nI hm1 hm30, if_pos rfl, nI_clamp (by omega), show mm = i by omega]; exact hMi, hoi⟩ dX4_years_86
          · skip
            exact absurd c_4 (by omega)
        | succ d ih =>
          intro i  μ1 H locs ls hid hMi hLi hoi hW hl
          obtain ⟨m0i, hTi, hL3i, -, hPai, hSei, hSli⟩ := id hMi
          obtain ⟨_, _, _, _, _, _, oi3, -⟩ := id hL3i
          obtain ⟨_, _, _, _, _, _, oi10, -⟩ := id hLi
          obtain ⟨_, oi1, -⟩ := id hTi
          obtain ⟨_, _, oi17, -⟩ := id hPai
          obtain ⟨_, _, _, oi117, -⟩ := id hSei
          obtain ⟨⟨_, oi121, -⟩, -⟩ := id hSli
          have hki := lok_yrL hk (Ad S) i
          refine lv_iload_n hx hb dX4_years_29 rfl (lv_at hl 3 rfl) ?_
          refine lv_iload_n hx hb dX4_years_30 rfl (lv_at hl 1 rfl) ?_
          refine nv_cge (tgt := 85) F (by omega) (by omega) dX4_years_31 (by decide) (fun c_5 => ?_) (fun c_5 => ?_)
          · skip
            exact absurd c_5 (by omega)
          · skip
            refine lv_aload_n hx hb dX4_years_34 rfl (lv_at hl 0 rfl) ?_
            refine lv_aload_n hx hb dX4_years_35 rfl (lv_at hl 0 rfl) ?_
            refine nv_get F hW (by omega) m0i rfl iX4 7 (by decide) tw_155 rfl dX4_years_36 ?_
            refine lv_ldc2 (v := lN 6364136223846793005) hx hb F.1.2.2.2.1 (hts _ tw_587) dX4_years_39 ?_
            refine lv_lmul hx hb dX4_years_42 ?_
            refine lv_ldc2 (v := lN 1442695040888963407) hx hb F.1.2.2.2.1 (hts _ tw_588) dX4_years_43 ?_
            refine lv_ladd hx hb dX4_years_46 ?_
            refine nv_topl (y := ((sd (Ad S) (i + 1)))) rfl ?_
            refine nv_put F hW (by omega) m0i rfl iX4 tyX4 tyX4_ok nmX4 7 (by decide) tw_155 rfl rfl rfl (Nat.le_of_ble_eq_true rfl) dX4_years_47 (fun H locs hW => ?_)
            obtain ⟨μ6, eμ6⟩ : ∃ zz9 : ME, zz9 = va_up μ1 0 (.inr (4, [.ref (xa cx 1), .ref (xa cx 3), .ref (xa cx 10), .ref (xa cx 17), .ref (xa cx 117), .ref (xa cx 121), .int (nI (Ak S)), .long (sd (Ad S) (i + 1))])) := ⟨_, rfl⟩
            have hW : St cx s μ6 H locs := by rw [eμ6]; exact hW
            have h0_6 : μ6 0 = .inr (4, [.ref (xa cx 1), .ref (xa cx 3), .ref (xa cx 10), .ref (xa cx 17), .ref (xa cx 117), .ref (xa cx 121), .int (nI (Ak S)), .long (sd (Ad S) (i + 1))]) := by rw [eμ6, va_up_self]
            have h1_6 := (congrFun eμ6 1).trans ((va_up_ne _ _ (by omega)).trans oi1)
            have h3_6 := (congrFun eμ6 3).trans ((va_up_ne _ _ (by omega)).trans oi3)
            have h10_6 := (congrFun eμ6 10).trans ((va_up_ne _ _ (by omega)).trans oi10)
            have h17_6 := (congrFun eμ6 17).trans ((va_up_ne _ _ (by omega)).trans oi17)
            have h117_6 := (congrFun eμ6 117).trans ((va_up_ne _ _ (by omega)).trans oi117)
            have h121_6 := (congrFun eμ6 121).trans ((va_up_ne _ _ (by omega)).trans oi121)
            have hou6 : off 0 1 μ1 μ6 := fun z hz => by rw [eμ6, va_up_ne _ _ (by omega)]
            have hLu3_6 := laneR_off hL3i hou6 (by omega)
            have hLu10_6 := laneR_off hLi hou6 (by omega)
            refine lv_aload_n hx hb dX4_years_50 rfl (lv_at hl 0 rfl) ?_
            refine lv_aload_n hx hb dX4_years_51 rfl (lv_at hl 0 rfl) ?_
            refine nv_get F hW (by omega) h0_6 rfl iX4 7 (by decide) tw_155 rfl dX4_years_52 ?_
            refine lv_bipush (v := nI 33) hx hb dX4_years_55 (by decide) ?_
            refine lv_lushr hx hb dX4_years_57 rfl ?_
            refine lv_ldc2 (v := lN 40) hx hb F.1.2.2.2.1 (hts _ tw_589) dX4_years_58 ?_
            refine lv_lrem hx hb dX4_years_61 (by decide) ?_
            refine lv_l2i hx hb dX4_years_62 rfl ?_
            refine nv_top (y := ((nI (lotN (sd (Ad S) (i + 1)))))) (lot_eq (sd (Ad S) (i + 1))) ?_
            have hMc : mainR cx μ6 (uD S (sd (Ad S) (i + 1))) := (mk_uD h0_6 (textR_off hTi hou6 (by omega)) hLu3_6 ⟨_, hLu10_6⟩ (pastR_off hPai hou6 (by omega)) (seenR_off hSei hou6 (by omega)) (slotR_off hSli hou6 (by omega)))
            refine cl_v (cl_run (rest := []) F hW e_X4_263 (c_playYear hI l hN hMc (aok_uD hA) hB hLu10_6 hki (by omega) (lotN (sd (Ad S) (i + 1))) (lotN_lt _)) ⟨Nat.le_of_ble_eq_true rfl, Nat.le_of_ble_eq_true rfl⟩ (by omega) h0_6 rfl rfl rfl hl (Nat.le_of_ble_eq_true rfl) dX4_years_63 ⟨Nat.zero_le _, Nat.zero_le _⟩) hW (fun μ7 H locs q_7 hW => ?_)
            obtain ⟨hL_7, ho_7⟩ := q_7
            obtain ⟨_, _, _, _, _, _, o10_7, -⟩ := id hL_7
            have hk_7 := lok_yrL hk (Ad S) (i + 1)
            have o0_7 := (ho_7 0 (by omega)).trans h0_6
            have o1_7 := (ho_7 1 (by omega)).trans h1_6
            have o3_7 := (ho_7 3 (by omega)).trans h3_6
            have o17_7 := (ho_7 17 (by omega)).trans h17_6
            have o117_7 := (ho_7 117 (by omega)).trans h117_6
            have o121_7 := (ho_7 121 (by omega)).trans h121_6
            have hLx3_7 := laneR_off hLu3_6 ho_7 (by omega)
            refine lv_iload_n hx hb dX4_years_66 rfl (lv_at hl 2 rfl) ?_
            refine lv_aload_n hx hb dX4_years_67 rfl (lv_at hl 0 rfl) ?_
            refine nv_get F hW (by omega) o0_7 rfl iX4 2 (by decide) tw_150 rfl dX4_years_68 ?_
            refine cl_ip (cl_run (rest := [.int (nI (yrS (AL S) (Ad S) i))]) F hW e_X4_145 (c_standingBits hI l h10b hL_7 hk_7) ⟨Nat.le_of_ble_eq_true rfl, Nat.le_of_ble_eq_true rfl⟩ (by omega) o10_7 rfl rfl rfl hl (Nat.le_of_ble_eq_true rfl) dX4_years_71 ⟨Nat.zero_le _, Nat.zero_le _⟩) hW (fun H locs hW => ?_)
            refine cl_ip (cl_runS (rest := [.int (nI (yrS (AL S) (Ad S) i))]) F hW e_X4_219 (c_bitCount hI l (LU (yrL (AL S) (Ad S) (i + 1))) (lok_U (lok_yrL hk (Ad S) (i + 1)))) ⟨Nat.le_of_ble_eq_true rfl, Nat.le_of_ble_eq_true rfl⟩ rfl rfl hl (Nat.le_of_ble_eq_true rfl) dX4_years_74 ⟨Nat.zero_le _, Nat.zero_le _⟩) hW (fun H locs hW => ?_)
            refine nv_add F dX4_years_77 ?_
            refine lv_istore_n (lv' := [(2, .int (nI ((yrS (AL S) (Ad S) i) + (pop (LU (yrL (AL S) (Ad S) (i + 1))))))), (0, .ref (xa cx 0)), (1, .int (nI mm)), (3, .int (nI i))]) hx hb dX4_years_78 rfl hl (by decide) rfl (fun ls hl => ?_)
            refine lv_iinc (v := ((nI (i + 1)))) (lv' := [(3, .int (nI (i + 1))), (2, .int (nI ((yrS (AL S) (Ad S) i) + (pop (LU (yrL (AL S) (Ad S) (i + 1))))))), (0, .ref (xa cx 0)), (1, .int (nI mm))]) hx hb dX4_years_79 hl (k := 3) rfl (nI_add _ _) (by decide) rfl (fun ls hl => ?_)
            refine lv_goto (tgt := 29) hx hb dX4_years_82 (by decide) ?_
            exact ih (i + 1) μ7 _ _ _ (by omega) (mk_uD o0_7 (textR_off (textR_off hTi hou6 (by omega)) ho_7 (by omega)) hLx3_7 ⟨_, hL_7⟩ (pastR_off (pastR_off hPai hou6 (by omega)) ho_7 (by omega)) (seenR_off (seenR_off hSei hou6 (by omega)) ho_7 (by omega)) (slotR_off (slotR_off hSli hou6 (by omega)) ho_7 (by omega))) hL_7 (off_tr hoi (fun z hz => by rw [ho_7 z (by omega)]; rw [hou6 z (by omega)])) hW (lv_sub hl [2, 3, 1, 0] rfl)
      exact LOOP mm 0 μ3 _ _ _ (by omega) (mainR_trial hM (fun z hz => by rw [ho_3 z (by omega)]) ⟨_, hL_3⟩) hL_3 (off_big ho_3 (by omega)) hW (lv_sub hl [2, 3, 1, 0] rfl)
    · skip
      refine lv_bipush (v := (-2)) hx hb dX4_years_11 (by decide) ?_
      have hbad : c30 n = false := by first | exact c30_lo (by assumption) | exact c30_hi (by assumption)
      exact rt_ie F hr hlk hW (by unfold r_years; rw [hbad]; rfl) ⟨by unfold s_years; rw [hbad]; exact hM, off_rf⟩ dX4_years_13
