theorem lst_hour1 {L : LN} {j i : Nat} (hi : 1 ≤ i) : lst (hrs i L) j = (lst (hrs (i - 1) L) j && !(hF (hrs (i - 1) L)).testBit j) := by
  cases i with
  | zero => omega
  | succ i => exact lst_hour j

set_option maxHeartbeats 4000000 in
set_option maxRecDepth 100000 in
theorem x_falls {cx : CX} (hI : xI cx) (l : Launch) {μ : ME} {S : AS} {B : Nat} {Tr : (Nat → Int32) → Prop} (hN : 149 ≤ xN cx) (hX : modX cx μ S Tr) (hA : aok S B) (hMo : mok S) (hB : B < 800000) (h : Int32) : MT cx l yX5_falls cX5_falls 3 (some .int) 5 118 [.ref (xa cx 136), .int h] μ (Ei cx (r_falls S h) (fun μ1 => modX cx μ1 S (fun _ => True) ∧ off 136 13 μ μ1)) := by
  refine mt_of hI (by decide) (Nat.le_of_ble_eq_true rfl) ?_
  intro p e s m below meth c ls F hr hlk hW hl
  have hx := F.1.1
  have hb := F.1.2.1
  have hts := F.1.2.2.2.2
  obtain ⟨rh, nx, f1, fn, frd, ft, fo, fa, frw, fh, fu, fb, fz, fkp, g136, g137, g138, g139, g140, g141, g142, g143, g144, g145, g146, g147, g148, hg, hv, ht, hnx, hrw, hse, hkp, hTr⟩ := id hX
  have hk := hA.2.1
  have hn6 := hk.1
  have hk4 := hk.2.2.2.1
  have hU := lok_U hk
  have hV0 := modX_V0 hX
  have hl : lv_has ls 3 [(0, .ref (xa cx 136)), (1, .int h)] := hl
  refine lv_aload_n hx hb dX5_falls_0 rfl (lv_at hl 0 rfl) ?_
  refine lv_iload_n hx hb dX5_falls_1 rfl (lv_at hl 1 rfl) ?_
  refine cl_ip (cl_run (rest := []) F hW e_X5_91 (m_isHouse hI l hN hV0 hk (by omega) (by omega) h) ⟨Nat.le_of_ble_eq_true rfl, Nat.le_of_ble_eq_true rfl⟩ (by omega) g136 rfl rfl rfl hl (Nat.le_of_ble_eq_true rfl) dX5_falls_2 ⟨Nat.zero_le _, Nat.zero_le _⟩) hW (fun H locs hW => ?_)
  refine nv_bne (tgt := 10) F dX5_falls_5 (by decide) (fun c_1 => ?_) (fun c_1 => ?_)
  · skip
    obtain ⟨j, hj, rfl⟩ := inR_of c_1 (by omega)
    refine lv_aload_n hx hb dX5_falls_10 rfl (lv_at hl 0 rfl) ?_
    refine nv_get F hW (by omega) g136 rfl iX5 2 (by decide) tw_631 rfl dX5_falls_11 ?_
    refine lv_bipush (v := nI 18) hx hb dX5_falls_14 (by decide) ?_
    refine lv_iload_n hx hb dX5_falls_16 rfl (lv_at hl 1 rfl) ?_
    refine nv_add F dX5_falls_17 ?_
    refine nv_ialdN (x := ((b2 (lst (AL S) j)))) F hW (by omega) g138 (by omega) (by decide) ((hv.1 j (by omega)).2.2.2.1.trans (b2_n _).symm) dX5_falls_18 ?_
    refine nv_bne (tgt := 25) F dX5_falls_19 (by decide) (fun c_2 => ?_) (fun c_2 => ?_)
    · skip
      have hst : lst (AL S) j = true := c_2
      refine lv_aload_n hx hb dX5_falls_25 rfl (lv_at hl 0 rfl) ?_
      refine cl_v (cl_run (rest := []) F hW e_X5_134 (m_layTrial hI l hN hX hA hMo hB) ⟨Nat.le_of_ble_eq_true rfl, Nat.le_of_ble_eq_true rfl⟩ (by omega) g136 rfl rfl rfl hl (Nat.le_of_ble_eq_true rfl) dX5_falls_26 ⟨Nat.zero_le _, Nat.zero_le _⟩) hW (fun μ3 H locs q_3 hW => ?_)
      obtain ⟨hX_3, ho_3⟩ := q_3
      obtain ⟨rh_3, nx_3, f1_3, fn_3, frd_3, ft_3, fo_3, fa_3, frw_3, fh_3, fu_3, fb_3, fz_3, fkp_3, g136_3, g137_3, g138_3, g139_3, g140_3, g141_3, g142_3, g143_3, g144_3, g145_3, g146_3, g147_3, g148_3, hg_3, hv_3, ht_3, hnx_3, hrw_3, hse_3, hkp_3, hTr_3⟩ := id hX_3
      have hs_3 : shp (AL S) (AL S) := shp_rf
      have hkT_3 := hk
      have hn_3 : Ln (AL S) = Ln (AL S) := hs_3.1
      have hV0_3 := modX_V0 hX_3
      have hV1_3 := modX_V1 hX_3 hs_3
      refine lv_iconst (v := nI 1) hx hb dX5_falls_29 (by decide) ?_
      refine lv_istore_n (lv' := [(2, .int (nI 1)), (0, .ref (xa cx 136)), (1, .int (nI j))]) hx hb dX5_falls_30 rfl hl (by decide) rfl (fun ls hl => ?_)
      have LOOP : ∀ (d i : Nat)  (μLOOP : ME) (H : Heap) (locs : List Loc) (ls : Array Slot), i + d = 31 → (modX cx μLOOP S (fun fn => lv fn 31 (hrs (i - 1) (AL S)))) → (off 136 13 μ μLOOP) → (fallsF (AL S) j 30 1 = fallsF (AL S) j d i) → (1 ≤ i) → (lst (hrs (i - 1) (AL S)) j = true) → St cx s μLOOP H locs → lv_has ls 3 [(0, .ref (xa cx 136)), (1, .int (nI j)), (2, .int (nI i))] → W p l e { frames := 5, cells := 0, slots := 0, locals := 118 } s m [.ref (xa cx 136), .int (nI j)].toArray below meth c H locs 0 0 (MQ below (Ei cx (r_falls S (nI j)) (fun μ1 => modX cx μ1 S (fun _ => True) ∧ off 136 13 μ μ1)) [.ref (xa cx 136), .int (nI j)].toArray s 0 0 (xA cx)) (F0 m 31 ls []) := by
        intro d
        induction d with
        | zero =>
          intro i  μLOOP H locs ls hid hXiLOOP hoiLOOP hf hi1 hsi hW hl
          obtain ⟨rh_i, nx_i, f1_i, fn_i, frd_i, ft_i, fo_i, fa_i, frw_i, fh_i, fu_i, fb_i, fz_i, fkp_i, g136_i, g137_i, g138_i, g139_i, g140_i, g141_i, g142_i, g143_i, g144_i, g145_i, g146_i, g147_i, g148_i, hg_i, hv_i, ht_i, hnx_i, hrw_i, hse_i, hkp_i, hTr_i⟩ := id hXiLOOP
          have hs_i : shp (hrs (i - 1) (AL S)) (AL S) := shp_hrs _
          have hkT_i := lok_hrs hk (i - 1)
          have hn_i : Ln (hrs (i - 1) (AL S)) = Ln (AL S) := hs_i.1
          have hV0_i := modX_V0 hXiLOOP
          have hV1_i := modX_V1 hXiLOOP hs_i
          have ehr : hrs i (AL S) = hour (hrs (i - 1) (AL S)) := by cases i with | zero => omega | succ i => rfl
          refine lv_iload_n hx hb dX5_falls_31 rfl (lv_at hl 2 rfl) ?_
          refine lv_bipush (v := nI 30) hx hb dX5_falls_32 (by decide) ?_
          refine nv_cgt (tgt := 57) F (by omega) (by omega) dX5_falls_34 (by decide) (fun c_4 => ?_) (fun c_4 => ?_)
          · skip
            refine lv_bipush (v := (-9)) hx hb dX5_falls_57 (by decide) ?_
            exact rt_ie F hr hlk hW (by unfold r_falls; rw [inR_j hj (by omega), if_pos rfl, nI_clamp (by omega), if_pos hst, hf]; first | rfl | (show _ = (if lst (hrs i (AL S)) j = true then _ else _); rw [if_neg (by rw [lst_hour1 hi1, hsi, ‹Nat.testBit _ _ = true›]; decide)])) ⟨(modX_tr hXiLOOP (fun _ _ => trivial)), (fun z hz => by rw [hoiLOOP z (by omega)])⟩ dX5_falls_59
          · skip
            exact absurd c_4 (by omega)
        | succ d ih =>
          intro i  μLOOP H locs ls hid hXiLOOP hoiLOOP hf hi1 hsi hW hl
          obtain ⟨rh_i, nx_i, f1_i, fn_i, frd_i, ft_i, fo_i, fa_i, frw_i, fh_i, fu_i, fb_i, fz_i, fkp_i, g136_i, g137_i, g138_i, g139_i, g140_i, g141_i, g142_i, g143_i, g144_i, g145_i, g146_i, g147_i, g148_i, hg_i, hv_i, ht_i, hnx_i, hrw_i, hse_i, hkp_i, hTr_i⟩ := id hXiLOOP
          have hs_i : shp (hrs (i - 1) (AL S)) (AL S) := shp_hrs _
          have hkT_i := lok_hrs hk (i - 1)
          have hn_i : Ln (hrs (i - 1) (AL S)) = Ln (AL S) := hs_i.1
          have hV0_i := modX_V0 hXiLOOP
          have hV1_i := modX_V1 hXiLOOP hs_i
          have ehr : hrs i (AL S) = hour (hrs (i - 1) (AL S)) := by cases i with | zero => omega | succ i => rfl
          refine lv_iload_n hx hb dX5_falls_31 rfl (lv_at hl 2 rfl) ?_
          refine lv_bipush (v := nI 30) hx hb dX5_falls_32 (by decide) ?_
          refine nv_cgt (tgt := 57) F (by omega) (by omega) dX5_falls_34 (by decide) (fun c_5 => ?_) (fun c_5 => ?_)
          · skip
            exact absurd c_5 (by omega)
          · skip
            refine lv_aload_n hx hb dX5_falls_37 rfl (lv_at hl 0 rfl) ?_
            refine lv_iconst (v := nI 1) hx hb dX5_falls_38 (by decide) ?_
            refine cl_ie (cl_run (rest := []) F hW e_X5_137 (m_goOn1 hI l hN hXiLOOP hA hMo hB hs_i hkT_i (by omega)) ⟨Nat.le_of_ble_eq_true rfl, Nat.le_of_ble_eq_true rfl⟩ (by omega) g136_i rfl rfl rfl hl (Nat.le_of_ble_eq_true rfl) dX5_falls_39 ⟨Nat.zero_le _, Nat.zero_le _⟩) hW (fun μ6 H locs q_6 hW => ?_)
            obtain ⟨hX_6, ho_6⟩ := q_6
            have hX_6 : modX cx μ6 S (fun fn => lv fn 31 (hour (hrs (i - 1) (AL S)))) := hX_6
            obtain ⟨rh_6, nx_6, f1_6, fn_6, frd_6, ft_6, fo_6, fa_6, frw_6, fh_6, fu_6, fb_6, fz_6, fkp_6, g136_6, g137_6, g138_6, g139_6, g140_6, g141_6, g142_6, g143_6, g144_6, g145_6, g146_6, g147_6, g148_6, hg_6, hv_6, ht_6, hnx_6, hrw_6, hse_6, hkp_6, hTr_6⟩ := id hX_6
            have hs_6 : shp (hour (hrs (i - 1) (AL S))) (AL S) := shp_tr shp_hour hs_i
            have hkT_6 := lok_hour hkT_i
            have hn_6 : Ln (hour (hrs (i - 1) (AL S))) = Ln (AL S) := hs_6.1
            have hV0_6 := modX_V0 hX_6
            have hV1_6 := modX_V1 hX_6 hs_6
            refine lv_iload_n hx hb dX5_falls_42 rfl (lv_at hl 1 rfl) ?_
            refine cl_ip (cl_runS (rest := []) F hW e_X5_102 (m_has hI l (hF (hrs (i - 1) (AL S))) j (hF_lt (by rw [hrs_n]; exact hn6)) (by omega)) ⟨Nat.le_of_ble_eq_true rfl, Nat.le_of_ble_eq_true rfl⟩ rfl rfl hl (Nat.le_of_ble_eq_true rfl) dX5_falls_43 ⟨Nat.zero_le _, Nat.zero_le _⟩) hW (fun H locs hW => ?_)
            refine nv_beq (tgt := 51) F dX5_falls_46 (by decide) (fun c_7 => ?_) (fun c_7 => ?_)
            · skip
              refine lv_iinc (v := ((nI (i + 1)))) (lv' := [(2, .int (nI (i + 1))), (0, .ref (xa cx 136)), (1, .int (nI j))]) hx hb dX5_falls_51 hl (k := 2) rfl (nI_add _ _) (by decide) rfl (fun ls hl => ?_)
              refine lv_goto (tgt := 31) hx hb dX5_falls_54 (by decide) ?_
              exact ih (i + 1) μ6 _ _ _ (by omega) (by rw [Nat.add_sub_cancel, ehr]; exact hX_6) (fun z hz => by rw [ho_6 z (by omega)]; rw [hoiLOOP z (by omega)]) (by rw [hf]; show (if lst (hrs i (AL S)) j = true then _ else _) = _; rw [if_pos (by rw [lst_hour1 hi1, hsi, ‹Nat.testBit _ _ = false›]; rfl)]) (by omega) (by rw [Nat.add_sub_cancel, lst_hour1 hi1, hsi, ‹Nat.testBit _ _ = false›]; rfl) hW (lv_sub hl [1, 2, 0] rfl)
            · skip
              refine lv_iload_n hx hb dX5_falls_49 rfl (lv_at hl 2 rfl) ?_
              exact rt_ie F hr hlk hW (by unfold r_falls; rw [inR_j hj (by omega), if_pos rfl, nI_clamp (by omega), if_pos hst, hf]; first | rfl | (show _ = (if lst (hrs i (AL S)) j = true then _ else _); rw [if_neg (by rw [lst_hour1 hi1, hsi, ‹Nat.testBit _ _ = true›]; decide)])) ⟨(modX_tr hX_6 (fun _ _ => trivial)), (fun z hz => by rw [ho_6 z (by omega)]; rw [hoiLOOP z (by omega)])⟩ dX5_falls_50
      exact LOOP 30 1 μ3 _ _ _ (by omega) hX_3 (fun z hz => by rw [ho_3 z (by omega)]) rfl (by omega) hst hW (lv_sub hl [1, 2, 0] rfl)
    · skip
      refine lv_bipush (v := (-3)) hx hb dX5_falls_22 (by decide) ?_
      exact rt_ie F hr hlk hW (by unfold r_falls; rw [inR_j hj (by omega), if_pos rfl, nI_clamp (by omega), ‹lst (AL S) j = false›]; rfl) ⟨(modX_tr hX (fun _ _ => trivial)), off_rf⟩ dX5_falls_24
  · skip
    refine lv_iconst (v := (-1)) hx hb dX5_falls_8 (by decide) ?_
    exact rt_ie F hr hlk hW (by unfold r_falls; rw [‹inR h (Ln (AL S)) = false›]; rfl) ⟨(modX_tr hX (fun _ _ => trivial)), off_rf⟩ dX5_falls_9

theorem ring_go {L : LN} {i t : Nat} (ht : t < Ln L) (hi : i < 1000) (ht3 : t < 1000) (e1 : nI t = lnI (Ld L i) i) (e2 : lnI (Ld L t) t = nI i) (hin : i < Ln L) : ((decide (Ld L i = 1) && decide (i + 1 < Ln L) && decide (Ld L (i + 1) = 0)) || (decide (0 < i) && decide (Ld L i = 0) && decide (Ld L (i - 1) = 1))) = true := by
  have a := (ln_eq (d := Ld L i) hi ht3).mp e1.symm
  have b := (ln_eq (d := Ld L t) ht3 hi).mp e2
  rcases a with ⟨a1, a2⟩ | ⟨a1, a2⟩
  · have : t = i - 1 := by omega
    subst this
    rcases b with ⟨b1, b2⟩ | ⟨b1, b2⟩
    · omega
    · simp [a1, b1]
      omega
  · subst a2
    rcases b with ⟨b1, b2⟩ | ⟨b1, b2⟩
    · simp [a1, b1, ht]
    · omega
theorem ring_no {L : LN} {i : Nat} (hi : i < 1000) (hin : i < Ln L) (hn : Ln L ≤ 6) (h : inR (lnI (Ld L i) i) (Ln L) = false ∨ ∃ t, t < Ln L ∧ t < 1000 ∧ nI t = lnI (Ld L i) i ∧ ¬ lnI (Ld L t) t = nI i) : ((decide (Ld L i = 1) && decide (i + 1 < Ln L) && decide (Ld L (i + 1) = 0)) || (decide (0 < i) && decide (Ld L i = 0) && decide (Ld L (i - 1) = 1))) = false := by
  rw [Bool.or_eq_false_iff]
  have e1 : lnI 1 i = nI (i + 1) := rfl
  rcases h with h | ⟨t, ht, ht3, h1, h2⟩
  · constructor
    · by_cases d1 : Ld L i = 1
      · rw [d1, e1, inR_nI (by omega)] at h
        have := of_decide_eq_false h
        simp [this]
      · simp [d1]
    · by_cases d0 : Ld L i = 0
      · by_cases z : 0 < i
        · rw [d0, show lnI 0 i = nI (i - 1) from by unfold lnI; rw [if_pos rfl, pk_sub (by omega)], inR_nI (by omega)] at h
          have := of_decide_eq_false h
          omega
        · simp [z]
      · simp [d0]
  · constructor
    · by_cases d1 : Ld L i = 1
      · have a := (ln_eq (d := Ld L i) hi ht3).mp h1.symm
        have : t = i + 1 := by omega
        subst this
        by_cases d0 : Ld L (i + 1) = 0
        · exact absurd ((ln_eq (d := Ld L (i + 1)) ht3 hi).mpr (Or.inl ⟨d0, rfl⟩)) h2
        · simp [d0]
      · simp [d1]
    · by_cases d0 : Ld L i = 0
      · have a := (ln_eq (d := Ld L i) hi ht3).mp h1.symm
        have e : i = t + 1 := by omega
        by_cases d1 : Ld L (i - 1) = 1
        · rw [e, Nat.add_sub_cancel] at d1
          exact absurd ((ln_eq (d := Ld L t) ht3 hi).mpr (Or.inr ⟨d1, e⟩)) h2
        · simp [d1]
      · simp [d0]
def rgP (L : LN) (h : Nat) : Bool := (decide (Ld L h = 1) && decide (h + 1 < Ln L) && decide (Ld L (h + 1) = 0)) || (decide (0 < h) && decide (Ld L h = 0) && decide (Ld L (h - 1) = 1))

set_option maxHeartbeats 4000000 in
set_option maxRecDepth 100000 in
theorem x_rings {cx : CX} (hI : xI cx) (l : Launch) {μ : ME} {S : AS} {B : Nat} {Tr : (Nat → Int32) → Prop} (hN : 149 ≤ xN cx) (hX : modX cx μ S Tr) (hA : aok S B) (hMo : mok S) (hB : B < 800000) : MT cx l yX5_rings cX5_rings 4 (some .int) 2 46 [.ref (xa cx 136)] μ (Ei cx (nI (ringL (AL S))) (fun μ1 => modX cx μ1 S (fun _ => True) ∧ off 136 13 μ μ1)) := by
  refine mt_of hI (by decide) (Nat.le_of_ble_eq_true rfl) ?_
  intro p e s m below meth c ls F hr hlk hW hl
  have hx := F.1.1
  have hb := F.1.2.1
  have hts := F.1.2.2.2.2
  obtain ⟨rh, nx, f1, fn, frd, ft, fo, fa, frw, fh, fu, fb, fz, fkp, g136, g137, g138, g139, g140, g141, g142, g143, g144, g145, g146, g147, g148, hg, hv, ht, hnx, hrw, hse, hkp, hTr⟩ := id hX
  have hk := hA.2.1
  have hn6 := hk.1
  have hk4 := hk.2.2.2.1
  have hU := lok_U hk
  have hV0 := modX_V0 hX
  have hl : lv_has ls 4 [(0, .ref (xa cx 136))] := hl
  refine lv_iconst (v := nI 0) hx hb dX5_rings_0 (by decide) ?_
  refine lv_istore_n (lv' := [(1, .int (nI 0)), (0, .ref (xa cx 136))]) hx hb dX5_rings_1 rfl hl (by decide) rfl (fun ls hl => ?_)
  refine lv_iconst (v := nI 0) hx hb dX5_rings_2 (by decide) ?_
  refine lv_istore_n (lv' := [(2, .int (nI 0)), (1, .int (nI 0)), (0, .ref (xa cx 136))]) hx hb dX5_rings_3 rfl hl (by decide) rfl (fun ls hl => ?_)
  have LOOP : ∀ (d i : Nat)  (H : Heap) (locs : List Loc) (ls : Array Slot), i + d = Ln (AL S) → St cx s μ H locs → lv_has ls 4 [(0, .ref (xa cx 136)), (1, .int (nI (bitsOf (rgP (AL S)) i))), (2, .int (nI i))] → W p l e { frames := 2, cells := 0, slots := 0, locals := 46 } s m [.ref (xa cx 136)].toArray below meth c H locs 0 0 (MQ below (Ei cx (nI (ringL (AL S))) (fun μ1 => modX cx μ1 S (fun _ => True) ∧ off 136 13 μ μ1)) [.ref (xa cx 136)].toArray s 0 0 (xA cx)) (F0 m 4 ls []) := by
    intro d
    induction d with
    | zero =>
      intro i   H locs ls hid  hW hl
      refine lv_iload_n hx hb dX5_rings_4 rfl (lv_at hl 2 rfl) ?_
      refine lv_aload_n hx hb dX5_rings_5 rfl (lv_at hl 0 rfl) ?_
      refine nv_get F hW (by omega) g136 rfl iX5 0 (by decide) tw_629 rfl dX5_rings_6 ?_
      refine nv_cge (tgt := 53) F (by omega) (by omega) dX5_rings_9 (by decide) (fun c_1 => ?_) (fun c_1 => ?_)
      · skip
        refine lv_iload_n hx hb dX5_rings_53 rfl (lv_at hl 1 rfl) ?_
        exact rt_ie F hr hlk hW (by rw [show i = Ln (AL S) by omega]; rfl) ⟨(modX_tr hX (fun _ _ => trivial)), off_rf⟩ dX5_rings_54
      · skip
        exact absurd c_1 (by omega)
    | succ d ih =>
      intro i   H locs ls hid  hW hl
      refine lv_iload_n hx hb dX5_rings_4 rfl (lv_at hl 2 rfl) ?_
      refine lv_aload_n hx hb dX5_rings_5 rfl (lv_at hl 0 rfl) ?_
      refine nv_get F hW (by omega) g136 rfl iX5 0 (by decide) tw_629 rfl dX5_rings_6 ?_
      refine nv_cge (tgt := 53) F (by omega) (by omega) dX5_rings_9 (by decide) (fun c_2 => ?_) (fun c_2 => ?_)
      · skip
        exact absurd c_2 (by omega)
      · skip
        refine lv_aload_n hx hb dX5_rings_12 rfl (lv_at hl 0 rfl) ?_
        refine lv_iconst (v := nI 0) hx hb dX5_rings_13 (by decide) ?_
        refine lv_iload_n hx hb dX5_rings_14 rfl (lv_at hl 2 rfl) ?_
        refine cl_ip (cl_run (rest := []) F hW e_X5_88 (m_leansOn hI l hN hV0 hk (by omega) (by omega) i (by omega)) ⟨Nat.le_of_ble_eq_true rfl, Nat.le_of_ble_eq_true rfl⟩ (by omega) g136 rfl rfl rfl hl (Nat.le_of_ble_eq_true rfl) dX5_rings_15 ⟨Nat.zero_le _, Nat.zero_le _⟩) hW (fun H locs hW => ?_)
        refine lv_topi (fun x3 ex3 => ?_)
        refine lv_istore_n (lv' := [(3, .int x3), (0, .ref (xa cx 136)), (1, .int (nI (bitsOf (rgP (AL S)) i))), (2, .int (nI i))]) hx hb dX5_rings_18 rfl hl (by decide) rfl (fun ls hl => ?_)
        refine lv_iload_n hx hb dX5_rings_19 rfl (lv_at hl 2 rfl) ?_
        refine lv_aload_n hx hb dX5_rings_20 rfl (lv_at hl 1 rfl) ?_
        refine lv_iload_n hx hb dX5_rings_21 rfl (lv_at hl 0 rfl) ?_
        refine cl_ip (cl_run (rest := [.int (nI (bitsOf (rgP (AL S)) i))]) F hW e_X5_91 (m_isHouse hI l hN hV0 hk (by omega) (by omega) x3) ⟨Nat.le_of_ble_eq_true rfl, Nat.le_of_ble_eq_true rfl⟩ (by omega) g136 rfl rfl rfl hl (Nat.le_of_ble_eq_true rfl) dX5_rings_22 ⟨Nat.zero_le _, Nat.zero_le _⟩) hW (fun H locs hW => ?_)
        refine nv_beq (tgt := 44) F dX5_rings_25 (by decide) (fun c_3 => ?_) (fun c_3 => ?_)
        · skip
          refine lv_iconst (v := nI 0) hx hb dX5_rings_44 (by decide) ?_
          refine nv_or F dX5_rings_45 ?_
          refine lv_istore_n (lv' := [(1, .int (nI ((bitsOf (rgP (AL S)) i) ||| 0))), (3, .int x3), (0, .ref (xa cx 136)), (2, .int (nI i))]) hx hb dX5_rings_46 rfl hl (by decide) rfl (fun ls hl => ?_)
          refine lv_iinc (v := ((nI (i + 1)))) (lv' := [(2, .int (nI (i + 1))), (1, .int (nI ((bitsOf (rgP (AL S)) i) ||| 0))), (3, .int x3), (0, .ref (xa cx 136))]) hx hb dX5_rings_47 hl (k := 3) rfl (nI_add _ _) (by decide) rfl (fun ls hl => ?_)
          refine lv_goto (tgt := 4) hx hb dX5_rings_50 (by decide) ?_
          have eR : rgP (AL S) i = false := ring_no (by omega) (by omega) hn6 (by first | exact Or.inl (by rw [← ex3]; assumption) | exact Or.inr ⟨t0, ht0, by omega, ex3, by assumption⟩)
          exact ih (i + 1) _ _ _ (by omega) hW (by have e9 : bitsOf (rgP (AL S)) (i + 1) = (bitsOf (rgP (AL S)) i) ||| 0 := (by show bitsOf (rgP (AL S)) i ||| _ = _; rw [eR]; rfl); rw [e9]; exact lv_sub hl [3, 1, 0] rfl)
        · skip
          obtain ⟨t0, ht0, rfl⟩ := inR_of c_3 (by omega)
          refine lv_aload_n hx hb dX5_rings_28 rfl (lv_at hl 1 rfl) ?_
          refine lv_iconst (v := nI 0) hx hb dX5_rings_29 (by decide) ?_
          refine lv_iload_n hx hb dX5_rings_30 rfl (lv_at hl 0 rfl) ?_
          refine cl_ip (cl_run (rest := [.int (nI (bitsOf (rgP (AL S)) i))]) F hW e_X5_88 (m_leansOn hI l hN hV0 hk (by omega) (by omega) t0 (by omega)) ⟨Nat.le_of_ble_eq_true rfl, Nat.le_of_ble_eq_true rfl⟩ (by omega) g136 rfl rfl rfl hl (Nat.le_of_ble_eq_true rfl) dX5_rings_31 ⟨Nat.zero_le _, Nat.zero_le _⟩) hW (fun H locs hW => ?_)
          refine lv_iload_n hx hb dX5_rings_34 rfl (lv_at hl 3 rfl) ?_
          refine lv_icmp_ne (tgt := 44) hx hb dX5_rings_35 (by decide) (fun c_4 => ?_) (fun c_4 => ?_)
          · skip
            refine lv_iconst (v := nI 0) hx hb dX5_rings_44 (by decide) ?_
            refine nv_or F dX5_rings_45 ?_
            refine lv_istore_n (lv' := [(1, .int (nI ((bitsOf (rgP (AL S)) i) ||| 0))), (3, .int (nI t0)), (0, .ref (xa cx 136)), (2, .int (nI i))]) hx hb dX5_rings_46 rfl hl (by decide) rfl (fun ls hl => ?_)
            refine lv_iinc (v := ((nI (i + 1)))) (lv' := [(2, .int (nI (i + 1))), (1, .int (nI ((bitsOf (rgP (AL S)) i) ||| 0))), (3, .int (nI t0)), (0, .ref (xa cx 136))]) hx hb dX5_rings_47 hl (k := 3) rfl (nI_add _ _) (by decide) rfl (fun ls hl => ?_)
            refine lv_goto (tgt := 4) hx hb dX5_rings_50 (by decide) ?_
            have eR : rgP (AL S) i = false := ring_no (by omega) (by omega) hn6 (by first | exact Or.inl (by rw [← ex3]; assumption) | exact Or.inr ⟨t0, ht0, by omega, ex3, by assumption⟩)
            exact ih (i + 1) _ _ _ (by omega) hW (by have e9 : bitsOf (rgP (AL S)) (i + 1) = (bitsOf (rgP (AL S)) i) ||| 0 := (by show bitsOf (rgP (AL S)) i ||| _ = _; rw [eR]; rfl); rw [e9]; exact lv_sub hl [3, 1, 0] rfl)
          · skip
            have e35 := c_4
            refine lv_iconst (v := nI 1) hx hb dX5_rings_38 (by decide) ?_
            refine lv_iload_n hx hb dX5_rings_39 rfl (lv_at hl 3 rfl) ?_
            refine nv_shl F (by omega) (pow2_lt (by omega)) dX5_rings_40 ?_
            refine nv_top (y := ((nI (2 ^ i)))) (by rw [Nat.one_mul]) ?_
            refine lv_goto (tgt := 45) hx hb dX5_rings_41 (by decide) ?_
            refine nv_or F dX5_rings_45 ?_
            refine lv_istore_n (lv' := [(1, .int (nI ((bitsOf (rgP (AL S)) i) ||| (2 ^ i)))), (3, .int (nI t0)), (0, .ref (xa cx 136)), (2, .int (nI i))]) hx hb dX5_rings_46 rfl hl (by decide) rfl (fun ls hl => ?_)
            refine lv_iinc (v := ((nI (i + 1)))) (lv' := [(2, .int (nI (i + 1))), (1, .int (nI ((bitsOf (rgP (AL S)) i) ||| (2 ^ i)))), (3, .int (nI t0)), (0, .ref (xa cx 136))]) hx hb dX5_rings_47 hl (k := 3) rfl (nI_add _ _) (by decide) rfl (fun ls hl => ?_)
            refine lv_goto (tgt := 4) hx hb dX5_rings_50 (by decide) ?_
            have eR : rgP (AL S) i = true := ring_go ht0 (by omega) (by omega) ex3 e35 (by omega)
            exact ih (i + 1) _ _ _ (by omega) hW (by have e9 : bitsOf (rgP (AL S)) (i + 1) = (bitsOf (rgP (AL S)) i) ||| (2 ^ i) := (by show bitsOf (rgP (AL S)) i ||| _ = _; rw [eR]; rfl); rw [e9]; exact lv_sub hl [3, 1, 0] rfl)
  exact LOOP (Ln (AL S)) 0 _ _ _ (by omega) hW (lv_sub hl [2, 1, 0] rfl)

set_option maxHeartbeats 4000000 in
set_option maxRecDepth 100000 in
theorem x_see {cx : CX} (hI : xI cx) (l : Launch) {μ : ME} {S : AS} {B : Nat} {Tr : (Nat → Int32) → Prop} (hN : 149 ≤ xN cx) (hX : modX cx μ S Tr) (hA : aok S B) (hMo : mok S) (hB : B < 800000) (h o t : Int32) : MT cx l yX5_see cX5_see 4 (some .int) 1 25 [.ref (xa cx 136), .int h, .int o, .int t] μ (Ei cx (r_see S h o t) (fun μ1 => modX cx μ1 (s_see S h o t) (fun _ => True) ∧ off 136 13 μ μ1)) := by
  refine mt_of hI (by decide) (Nat.le_of_ble_eq_true rfl) ?_
  intro p e s m below meth c ls F hr hlk hW hl
  have hx := F.1.1
  have hb := F.1.2.1
  have hts := F.1.2.2.2.2
  obtain ⟨rh, nx, f1, fn, frd, ft, fo, fa, frw, fh, fu, fb, fz, fkp, g136, g137, g138, g139, g140, g141, g142, g143, g144, g145, g146, g147, g148, hg, hv, ht, hnx, hrw, hse, hkp, hTr⟩ := id hX
  have hk := hA.2.1
  have hn6 := hk.1
  have hk4 := hk.2.2.2.1
  have hU := lok_U hk
  have hV0 := modX_V0 hX
  have hl : lv_has ls 4 [(0, .ref (xa cx 136)), (1, .int h), (2, .int o), (3, .int t)] := hl
  refine lv_iload_n hx hb dX5_see_0 rfl (lv_at hl 1 rfl) ?_
  refine lv_i2l hx hb dX5_see_1 rfl ?_
  refine lv_lconst (v := lN 1) hx hb dX5_see_2 (by decide) ?_
  refine lv_ldc2 (v := lN 9) hx hb F.1.2.2.2.1 (hts _ tw_768) dX5_see_3 ?_
  refine cl_ip (cl_runS (rest := []) F hW e_X5_49 (m_in hI l ((h.toInt64)) ((lN 1)) ((lN 9))) ⟨Nat.le_of_ble_eq_true rfl, Nat.le_of_ble_eq_true rfl⟩ rfl rfl hl (Nat.le_of_ble_eq_true rfl) dX5_see_6 ⟨Nat.zero_le _, Nat.zero_le _⟩) hW (fun H locs hW => ?_)
  refine nv_top (y := ((b2 (carI h)))) (congrArg b2 (inL_car _)) ?_
  refine nv_beq (tgt := 34) F dX5_see_9 (by decide) (fun c_1 => ?_) (fun c_1 => ?_)
  · skip
    refine lv_bipush (v := (-2)) hx hb dX5_see_34 (by decide) ?_
    have hbad : (carI h && inR o 6 && halI t) = false := by first | (rw [‹carI h = false›]; rfl) | (rw [‹inR o 6 = false›]; simp) | (rw [‹halI t = false›, Bool.and_false])
    exact rt_ie F hr hlk hW (by unfold r_see; rw [hbad]; rfl) ⟨by unfold s_see; rw [hbad]; exact (modX_tr hX (fun _ _ => trivial)), off_rf⟩ dX5_see_36
  · skip
    refine lv_iload_n hx hb dX5_see_12 rfl (lv_at hl 2 rfl) ?_
    refine lv_i2l hx hb dX5_see_13 rfl ?_
    refine lv_lconst (v := lN 0) hx hb dX5_see_14 (by decide) ?_
    refine lv_ldc2 (v := lN 5) hx hb F.1.2.2.2.1 (hts _ tw_873) dX5_see_15 ?_
    refine cl_ip (cl_runS (rest := []) F hW e_X5_49 (m_in hI l ((o.toInt64)) ((lN 0)) ((lN 5))) ⟨Nat.le_of_ble_eq_true rfl, Nat.le_of_ble_eq_true rfl⟩ rfl rfl hl (Nat.le_of_ble_eq_true rfl) dX5_see_18 ⟨Nat.zero_le _, Nat.zero_le _⟩) hW (fun H locs hW => ?_)
    refine nv_top (y := ((b2 (inR o 6)))) (congrArg b2 (inL_R (by decide))) ?_
    refine nv_beq (tgt := 34) F dX5_see_21 (by decide) (fun c_2 => ?_) (fun c_2 => ?_)
    · skip
      refine lv_bipush (v := (-2)) hx hb dX5_see_34 (by decide) ?_
      have hbad : (carI h && inR o 6 && halI t) = false := by first | (rw [‹carI h = false›]; rfl) | (rw [‹inR o 6 = false›]; simp) | (rw [‹halI t = false›, Bool.and_false])
      exact rt_ie F hr hlk hW (by unfold r_see; rw [hbad]; rfl) ⟨by unfold s_see; rw [hbad]; exact (modX_tr hX (fun _ _ => trivial)), off_rf⟩ dX5_see_36
    · skip
      refine lv_iload_n hx hb dX5_see_24 rfl (lv_at hl 3 rfl) ?_
      refine lv_i2l hx hb dX5_see_25 rfl ?_
      refine lv_lconst (v := lN 0) hx hb dX5_see_26 (by decide) ?_
      refine lv_lconst (v := lN 1) hx hb dX5_see_27 (by decide) ?_
      refine cl_ip (cl_runS (rest := []) F hW e_X5_49 (m_in hI l ((t.toInt64)) ((lN 0)) ((lN 1))) ⟨Nat.le_of_ble_eq_true rfl, Nat.le_of_ble_eq_true rfl⟩ rfl rfl hl (Nat.le_of_ble_eq_true rfl) dX5_see_28 ⟨Nat.zero_le _, Nat.zero_le _⟩) hW (fun H locs hW => ?_)
      refine nv_top (y := ((b2 (halI t)))) (congrArg b2 (inL_half _)) ?_
      refine nv_bne (tgt := 37) F dX5_see_31 (by decide) (fun c_3 => ?_) (fun c_3 => ?_)
      · skip
        obtain ⟨a, ha1, ha9, rfl⟩ := carI_of (show carI h = true by assumption)
        obtain ⟨e6, he6, rfl⟩ := inR_of (show inR o 6 = true by assumption) (by omega)
        obtain ⟨t1, ht1, rfl⟩ : ∃ z, z ≤ 1 ∧ t = nI z := by
                rcases halI_of c_3 with q | q
                · exact ⟨0, by omega, q⟩
                · exact ⟨1, by omega, q⟩
        have hct : carI (nI a) = true := by rw [carI_nI (by omega)]; exact decide_eq_true ⟨ha1, ha9⟩
        have hca : halI (nI t1) = true := c_3
        have hy6 := hA.2.2.2.1.1
        refine lv_aload_n hx hb dX5_see_37 rfl (lv_at hl 0 rfl) ?_
        refine nv_get F hW (by omega) g136 rfl iX5 12 (by decide) tw_641 rfl dX5_see_38 ?_
        refine lv_bipush (v := nI 6) hx hb dX5_see_41 (by decide) ?_
        refine nv_cne (tgt := 49) F (by omega) (by omega) dX5_see_43 (by decide) (fun c_4 => ?_) (fun c_4 => ?_)
        · skip
          refine lv_aload_n hx hb dX5_see_49 rfl (lv_at hl 0 rfl) ?_
          refine nv_get F hW (by omega) g136 rfl iX5 13 (by decide) tw_642 rfl dX5_see_50 ?_
          refine lv_aload_n hx hb dX5_see_53 rfl (lv_at hl 0 rfl) ?_
          refine nv_get F hW (by omega) g136 rfl iX5 12 (by decide) tw_641 rfl dX5_see_54 ?_
          refine lv_iload_n hx hb dX5_see_57 rfl (lv_at hl 1 rfl) ?_
          refine nv_iastN F hW (by omega) g144 (by omega) (by decide) dX5_see_58 (fun H locs hW => ?_)
          obtain ⟨μ5, eμ5⟩ : ∃ zz9 : ME, zz9 = va_up μ 144 (.inl (xT cx 0, 6, .inl (upd fh (Ay S) ((nI a))))) := ⟨_, rfl⟩
          have hW : St cx s μ5 H locs := by rw [eμ5]; exact hW
          have h136_5 := (congrFun eμ5 136).trans ((va_up_ne _ _ (by omega)).trans g136)
          have h137_5 := (congrFun eμ5 137).trans ((va_up_ne _ _ (by omega)).trans g137)
          have h138_5 := (congrFun eμ5 138).trans ((va_up_ne _ _ (by omega)).trans g138)
          have h139_5 := (congrFun eμ5 139).trans ((va_up_ne _ _ (by omega)).trans g139)
          have h140_5 := (congrFun eμ5 140).trans ((va_up_ne _ _ (by omega)).trans g140)
          have h141_5 := (congrFun eμ5 141).trans ((va_up_ne _ _ (by omega)).trans g141)
          have h142_5 := (congrFun eμ5 142).trans ((va_up_ne _ _ (by omega)).trans g142)
          have h143_5 := (congrFun eμ5 143).trans ((va_up_ne _ _ (by omega)).trans g143)
          have h144_5 : μ5 144 = .inl (xT cx 0, 6, .inl (upd fh (Ay S) ((nI a)))) := by rw [eμ5, va_up_self]
          have h145_5 := (congrFun eμ5 145).trans ((va_up_ne _ _ (by omega)).trans g145)
          have h146_5 := (congrFun eμ5 146).trans ((va_up_ne _ _ (by omega)).trans g146)
          have h147_5 := (congrFun eμ5 147).trans ((va_up_ne _ _ (by omega)).trans g147)
          have h148_5 := (congrFun eμ5 148).trans ((va_up_ne _ _ (by omega)).trans g148)
          refine lv_aload_n hx hb dX5_see_59 rfl (lv_at hl 0 rfl) ?_
          refine nv_get F hW (by omega) h136_5 rfl iX5 14 (by decide) tw_643 rfl dX5_see_60 ?_
          refine lv_aload_n hx hb dX5_see_63 rfl (lv_at hl 0 rfl) ?_
          refine nv_get F hW (by omega) h136_5 rfl iX5 12 (by decide) tw_641 rfl dX5_see_64 ?_
          refine lv_iload_n hx hb dX5_see_67 rfl (lv_at hl 2 rfl) ?_
          refine nv_iastN F hW (by omega) h145_5 (by omega) (by decide) dX5_see_68 (fun H locs hW => ?_)
          obtain ⟨μ6, eμ6⟩ : ∃ zz9 : ME, zz9 = va_up μ5 145 (.inl (xT cx 0, 6, .inl (upd fu (Ay S) ((nI e6))))) := ⟨_, rfl⟩
          have hW : St cx s μ6 H locs := by rw [eμ6]; exact hW
          have h136_6 := (congrFun eμ6 136).trans ((va_up_ne _ _ (by omega)).trans h136_5)
          have h137_6 := (congrFun eμ6 137).trans ((va_up_ne _ _ (by omega)).trans h137_5)
          have h138_6 := (congrFun eμ6 138).trans ((va_up_ne _ _ (by omega)).trans h138_5)
          have h139_6 := (congrFun eμ6 139).trans ((va_up_ne _ _ (by omega)).trans h139_5)
          have h140_6 := (congrFun eμ6 140).trans ((va_up_ne _ _ (by omega)).trans h140_5)
          have h141_6 := (congrFun eμ6 141).trans ((va_up_ne _ _ (by omega)).trans h141_5)
          have h142_6 := (congrFun eμ6 142).trans ((va_up_ne _ _ (by omega)).trans h142_5)
          have h143_6 := (congrFun eμ6 143).trans ((va_up_ne _ _ (by omega)).trans h143_5)
          have h144_6 := (congrFun eμ6 144).trans ((va_up_ne _ _ (by omega)).trans h144_5)
          have h145_6 : μ6 145 = .inl (xT cx 0, 6, .inl (upd fu (Ay S) ((nI e6)))) := by rw [eμ6, va_up_self]
          have h146_6 := (congrFun eμ6 146).trans ((va_up_ne _ _ (by omega)).trans h146_5)
          have h147_6 := (congrFun eμ6 147).trans ((va_up_ne _ _ (by omega)).trans h147_5)
          have h148_6 := (congrFun eμ6 148).trans ((va_up_ne _ _ (by omega)).trans h148_5)
          refine lv_aload_n hx hb dX5_see_69 rfl (lv_at hl 0 rfl) ?_
          refine nv_get F hW (by omega) h136_6 rfl iX5 15 (by decide) tw_644 rfl dX5_see_70 ?_
          refine lv_aload_n hx hb dX5_see_73 rfl (lv_at hl 0 rfl) ?_
          refine nv_get F hW (by omega) h136_6 rfl iX5 12 (by decide) tw_641 rfl dX5_see_74 ?_
          refine lv_iload_n hx hb dX5_see_77 rfl (lv_at hl 3 rfl) ?_
          refine nv_iastN F hW (by omega) h146_6 (by omega) (by decide) dX5_see_78 (fun H locs hW => ?_)
          obtain ⟨μ7, eμ7⟩ : ∃ zz9 : ME, zz9 = va_up μ6 146 (.inl (xT cx 0, 6, .inl (upd fb (Ay S) ((nI t1))))) := ⟨_, rfl⟩
          have hW : St cx s μ7 H locs := by rw [eμ7]; exact hW
          have h136_7 := (congrFun eμ7 136).trans ((va_up_ne _ _ (by omega)).trans h136_6)
          have h137_7 := (congrFun eμ7 137).trans ((va_up_ne _ _ (by omega)).trans h137_6)
          have h138_7 := (congrFun eμ7 138).trans ((va_up_ne _ _ (by omega)).trans h138_6)
          have h139_7 := (congrFun eμ7 139).trans ((va_up_ne _ _ (by omega)).trans h139_6)
          have h140_7 := (congrFun eμ7 140).trans ((va_up_ne _ _ (by omega)).trans h140_6)
          have h141_7 := (congrFun eμ7 141).trans ((va_up_ne _ _ (by omega)).trans h141_6)
          have h142_7 := (congrFun eμ7 142).trans ((va_up_ne _ _ (by omega)).trans h142_6)
          have h143_7 := (congrFun eμ7 143).trans ((va_up_ne _ _ (by omega)).trans h143_6)
          have h144_7 := (congrFun eμ7 144).trans ((va_up_ne _ _ (by omega)).trans h144_6)
          have h145_7 := (congrFun eμ7 145).trans ((va_up_ne _ _ (by omega)).trans h145_6)
          have h146_7 : μ7 146 = .inl (xT cx 0, 6, .inl (upd fb (Ay S) ((nI t1)))) := by rw [eμ7, va_up_self]
          have h147_7 := (congrFun eμ7 147).trans ((va_up_ne _ _ (by omega)).trans h147_6)
          have h148_7 := (congrFun eμ7 148).trans ((va_up_ne _ _ (by omega)).trans h148_6)
          refine lv_aload_n hx hb dX5_see_79 rfl (lv_at hl 0 rfl) ?_
          refine lv_dup hx hb dX5_see_80 rfl ?_
          refine nv_get F hW (by omega) h136_7 rfl iX5 12 (by decide) tw_641 rfl dX5_see_81 ?_
          refine lv_iconst (v := nI 1) hx hb dX5_see_84 (by decide) ?_
          refine nv_add F dX5_see_85 ?_
          refine nv_put F hW (by omega) h136_7 rfl iX5 tyX5 tyX5_ok nmX5 12 (by decide) tw_641 rfl rfl rfl (Nat.le_of_ble_eq_true rfl) dX5_see_86 (fun H locs hW => ?_)
          obtain ⟨μ8, eμ8⟩ : ∃ zz9 : ME, zz9 = va_up μ7 136 (.inr (5, [.int (nI (Ln (AL S))), .ref (xa cx 137), .ref (xa cx 138), .ref (xa cx 139), .int rh, .ref (xa cx 140), .int (nI (An S)), .ref (xa cx 141), .ref (xa cx 142), .int (nI (Az S)), .int (nI nx), .ref (xa cx 143), .int (nI ((Ay S) + 1)), .ref (xa cx 144), .ref (xa cx 145), .ref (xa cx 146), .long (Ad S), .ref (xa cx 147), .ref (xa cx 148)])) := ⟨_, rfl⟩
          have hW : St cx s μ8 H locs := by rw [eμ8]; exact hW
          have h136_8 : μ8 136 = .inr (5, [.int (nI (Ln (AL S))), .ref (xa cx 137), .ref (xa cx 138), .ref (xa cx 139), .int rh, .ref (xa cx 140), .int (nI (An S)), .ref (xa cx 141), .ref (xa cx 142), .int (nI (Az S)), .int (nI nx), .ref (xa cx 143), .int (nI ((Ay S) + 1)), .ref (xa cx 144), .ref (xa cx 145), .ref (xa cx 146), .long (Ad S), .ref (xa cx 147), .ref (xa cx 148)]) := by rw [eμ8, va_up_self]
          have h137_8 := (congrFun eμ8 137).trans ((va_up_ne _ _ (by omega)).trans h137_7)
          have h138_8 := (congrFun eμ8 138).trans ((va_up_ne _ _ (by omega)).trans h138_7)
          have h139_8 := (congrFun eμ8 139).trans ((va_up_ne _ _ (by omega)).trans h139_7)
          have h140_8 := (congrFun eμ8 140).trans ((va_up_ne _ _ (by omega)).trans h140_7)
          have h141_8 := (congrFun eμ8 141).trans ((va_up_ne _ _ (by omega)).trans h141_7)
          have h142_8 := (congrFun eμ8 142).trans ((va_up_ne _ _ (by omega)).trans h142_7)
          have h143_8 := (congrFun eμ8 143).trans ((va_up_ne _ _ (by omega)).trans h143_7)
          have h144_8 := (congrFun eμ8 144).trans ((va_up_ne _ _ (by omega)).trans h144_7)
          have h145_8 := (congrFun eμ8 145).trans ((va_up_ne _ _ (by omega)).trans h145_7)
          have h146_8 := (congrFun eμ8 146).trans ((va_up_ne _ _ (by omega)).trans h146_7)
          have h147_8 := (congrFun eμ8 147).trans ((va_up_ne _ _ (by omega)).trans h147_7)
          have h148_8 := (congrFun eμ8 148).trans ((va_up_ne _ _ (by omega)).trans h148_7)
          refine lv_aload_n hx hb dX5_see_89 rfl (lv_at hl 0 rfl) ?_
          refine nv_get F hW (by omega) h136_8 rfl iX5 12 (by decide) tw_641 rfl dX5_see_90 ?_
          exact rt_ie F hr hlk hW (by unfold r_see; rw [hct, inR_j he6 (by omega), hca]; show _ = (if Ay S < 6 then _ else _); rw [if_pos (by omega)]) ⟨by unfold s_see; rw [hct, inR_j he6 (by omega), hca, decide_eq_true (show Ay S < 6 by omega), nI_clamp (by omega), nI_clamp (by omega), nI_clamp (by omega)]; exact ⟨rh, nx, f1, fn, frd, ft, fo, fa, frw, (upd fh (Ay S) ((nI a))), (upd fu (Ay S) ((nI e6))), (upd fb (Ay S) ((nI t1))), fz, fkp, h136_8, h137_8, h138_8, h139_8, h140_8, h141_8, h142_8, h143_8, h144_8, h145_8, h146_8, h147_8, h148_8, hg, hv, ht, hnx, hrw, fun i hi => by
      have hi : i < Ay S + 1 := hi
      show _ = nI (va_up (Ah S) (Ay S) a i) ∧ _ = nI (va_up (Ao S) (Ay S) e6 i) ∧ _ = nI (va_up (Ab S) (Ay S) t1 i)
      by_cases e9 : i = Ay S
      · rw [upd_eq e9, upd_eq e9, upd_eq e9, e9, va_up_self, va_up_self, va_up_self]; exact ⟨rfl, rfl, rfl⟩
      · rw [upd_ne e9, upd_ne e9, upd_ne e9, va_up_ne _ _ e9, va_up_ne _ _ e9, va_up_ne _ _ e9]; exact hse i (by omega), hkp, trivial⟩, (fun z hz => by rw [eμ8, va_up_ne _ _ (by omega)]; rw [eμ7, va_up_ne _ _ (by omega)]; rw [eμ6, va_up_ne _ _ (by omega)]; rw [eμ5, va_up_ne _ _ (by omega)])⟩ dX5_see_93
        · skip
          refine lv_bipush (v := (-4)) hx hb dX5_see_46 (by decide) ?_
          exact rt_ie F hr hlk hW (by unfold r_see; rw [hct, inR_j he6 (by omega), hca]; show _ = (if Ay S < 6 then _ else _); rw [if_neg (by omega)]) ⟨by unfold s_see; rw [hct, inR_j he6 (by omega), hca, decide_eq_false (show ¬ Ay S < 6 by omega)]; exact (modX_tr hX (fun _ _ => trivial)), off_rf⟩ dX5_see_48
      · skip
        refine lv_bipush (v := (-2)) hx hb dX5_see_34 (by decide) ?_
        have hbad : (carI h && inR o 6 && halI t) = false := by first | (rw [‹carI h = false›]; rfl) | (rw [‹inR o 6 = false›]; simp) | (rw [‹halI t = false›, Bool.and_false])
        exact rt_ie F hr hlk hW (by unfold r_see; rw [hbad]; rfl) ⟨by unfold s_see; rw [hbad]; exact (modX_tr hX (fun _ _ => trivial)), off_rf⟩ dX5_see_36

set_option maxHeartbeats 4000000 in
set_option maxRecDepth 100000 in
theorem x_unsee {cx : CX} (hI : xI cx) (l : Launch) {μ : ME} {S : AS} {B : Nat} {Tr : (Nat → Int32) → Prop} (hN : 149 ≤ xN cx) (hX : modX cx μ S Tr) (hA : aok S B) (hMo : mok S) (hB : B < 800000) : MT cx l yX5_unsee cX5_unsee 2 (some .int) 0 0 [.ref (xa cx 136)] μ (Ei cx (nI (Ay S)) (fun μ1 => modX cx μ1 (uS S (Ah S) (Ao S) (Ab S) 0) (fun _ => True) ∧ off 136 13 μ μ1)) := by
  refine mt_of hI (by decide) (Nat.le_of_ble_eq_true rfl) ?_
  intro p e s m below meth c ls F hr hlk hW hl
  have hx := F.1.1
  have hb := F.1.2.1
  have hts := F.1.2.2.2.2
  obtain ⟨rh, nx, f1, fn, frd, ft, fo, fa, frw, fh, fu, fb, fz, fkp, g136, g137, g138, g139, g140, g141, g142, g143, g144, g145, g146, g147, g148, hg, hv, ht, hnx, hrw, hse, hkp, hTr⟩ := id hX
  have hk := hA.2.1
  have hn6 := hk.1
  have hk4 := hk.2.2.2.1
  have hU := lok_U hk
  have hV0 := modX_V0 hX
  have hl : lv_has ls 2 [(0, .ref (xa cx 136))] := hl
  refine lv_aload_n hx hb dX5_unsee_0 rfl (lv_at hl 0 rfl) ?_
  refine nv_get F hW (by omega) g136 rfl iX5 12 (by decide) tw_641 rfl dX5_unsee_1 ?_
  refine lv_istore_n (lv' := [(1, .int (nI (Ay S))), (0, .ref (xa cx 136))]) hx hb dX5_unsee_4 rfl hl (by decide) rfl (fun ls hl => ?_)
  refine lv_aload_n hx hb dX5_unsee_5 rfl (lv_at hl 1 rfl) ?_
  refine lv_iconst (v := nI 0) hx hb dX5_unsee_6 (by decide) ?_
  refine nv_put F hW (by omega) g136 rfl iX5 tyX5 tyX5_ok nmX5 12 (by decide) tw_641 rfl rfl rfl (Nat.le_of_ble_eq_true rfl) dX5_unsee_7 (fun H locs hW => ?_)
  obtain ⟨μ1, eμ1⟩ : ∃ zz9 : ME, zz9 = va_up μ 136 (.inr (5, [.int (nI (Ln (AL S))), .ref (xa cx 137), .ref (xa cx 138), .ref (xa cx 139), .int rh, .ref (xa cx 140), .int (nI (An S)), .ref (xa cx 141), .ref (xa cx 142), .int (nI (Az S)), .int (nI nx), .ref (xa cx 143), .int (nI 0), .ref (xa cx 144), .ref (xa cx 145), .ref (xa cx 146), .long (Ad S), .ref (xa cx 147), .ref (xa cx 148)])) := ⟨_, rfl⟩
  have hW : St cx s μ1 H locs := by rw [eμ1]; exact hW
  have h136_1 : μ1 136 = .inr (5, [.int (nI (Ln (AL S))), .ref (xa cx 137), .ref (xa cx 138), .ref (xa cx 139), .int rh, .ref (xa cx 140), .int (nI (An S)), .ref (xa cx 141), .ref (xa cx 142), .int (nI (Az S)), .int (nI nx), .ref (xa cx 143), .int (nI 0), .ref (xa cx 144), .ref (xa cx 145), .ref (xa cx 146), .long (Ad S), .ref (xa cx 147), .ref (xa cx 148)]) := by rw [eμ1, va_up_self]
  have h137_1 := (congrFun eμ1 137).trans ((va_up_ne _ _ (by omega)).trans g137)
  have h138_1 := (congrFun eμ1 138).trans ((va_up_ne _ _ (by omega)).trans g138)
  have h139_1 := (congrFun eμ1 139).trans ((va_up_ne _ _ (by omega)).trans g139)
  have h140_1 := (congrFun eμ1 140).trans ((va_up_ne _ _ (by omega)).trans g140)
  have h141_1 := (congrFun eμ1 141).trans ((va_up_ne _ _ (by omega)).trans g141)
  have h142_1 := (congrFun eμ1 142).trans ((va_up_ne _ _ (by omega)).trans g142)
  have h143_1 := (congrFun eμ1 143).trans ((va_up_ne _ _ (by omega)).trans g143)
  have h144_1 := (congrFun eμ1 144).trans ((va_up_ne _ _ (by omega)).trans g144)
  have h145_1 := (congrFun eμ1 145).trans ((va_up_ne _ _ (by omega)).trans g145)
  have h146_1 := (congrFun eμ1 146).trans ((va_up_ne _ _ (by omega)).trans g146)
  have h147_1 := (congrFun eμ1 147).trans ((va_up_ne _ _ (by omega)).trans g147)
  have h148_1 := (congrFun eμ1 148).trans ((va_up_ne _ _ (by omega)).trans g148)
  refine lv_iload_n hx hb dX5_unsee_10 rfl (lv_at hl 0 rfl) ?_
  exact rt_ie F hr hlk hW rfl ⟨⟨rh, nx, f1, fn, frd, ft, fo, fa, frw, fh, fu, fb, fz, fkp, h136_1, h137_1, h138_1, h139_1, h140_1, h141_1, h142_1, h143_1, h144_1, h145_1, h146_1, h147_1, h148_1, hg, hv, ht, hnx, hrw, (fun i hi => absurd (show i < 0 from hi) (by omega)), hkp, trivial⟩, (fun z hz => by rw [eμ1, va_up_ne _ _ (by omega)])⟩ dX5_unsee_11

set_option maxHeartbeats 4000000 in
set_option maxRecDepth 100000 in
theorem x_seed {cx : CX} (hI : xI cx) (l : Launch) {μ : ME} {S : AS} {B : Nat} {Tr : (Nat → Int32) → Prop} (hN : 149 ≤ xN cx) (hX : modX cx μ S Tr) (hA : aok S B) (hMo : mok S) (hB : B < 800000) (v : Int64) : MT cx l yX5_seed cX5_seed 5 (some .long) 0 0 [.ref (xa cx 136), .long (v)] μ (El cx (Ad S) (fun μ1 => modX cx μ1 (uD S v) (fun _ => True) ∧ off 136 13 μ μ1)) := by
  refine mt_of hI (by decide) (Nat.le_of_ble_eq_true rfl) ?_
  intro p e s m below meth c ls F hr hlk hW hl
  have hx := F.1.1
  have hb := F.1.2.1
  have hts := F.1.2.2.2.2
  obtain ⟨rh, nx, f1, fn, frd, ft, fo, fa, frw, fh, fu, fb, fz, fkp, g136, g137, g138, g139, g140, g141, g142, g143, g144, g145, g146, g147, g148, hg, hv, ht, hnx, hrw, hse, hkp, hTr⟩ := id hX
  have hk := hA.2.1
  have hn6 := hk.1
  have hk4 := hk.2.2.2.1
  have hU := lok_U hk
  have hV0 := modX_V0 hX
  have hl : lv_has ls 5 [(0, .ref (xa cx 136)), (1, .long (v))] := hl
  refine lv_aload_n hx hb dX5_seed_0 rfl (lv_at hl 0 rfl) ?_
  refine nv_get F hW (by omega) g136 rfl iX5 16 (by decide) tw_645 rfl dX5_seed_1 ?_
  refine lv_lstore_n (lv' := [(3, .long (Ad S)), (0, .ref (xa cx 136)), (1, .long (v))]) hx hb dX5_seed_4 rfl hl (by decide) rfl (fun ls hl => ?_)
  refine lv_aload_n hx hb dX5_seed_5 rfl (lv_at hl 1 rfl) ?_
  refine lv_lload_n hx hb dX5_seed_6 rfl (lv_at hl 2 rfl) ?_
  refine nv_put F hW (by omega) g136 rfl iX5 tyX5 tyX5_ok nmX5 16 (by decide) tw_645 rfl rfl rfl (Nat.le_of_ble_eq_true rfl) dX5_seed_7 (fun H locs hW => ?_)
  obtain ⟨μ1, eμ1⟩ : ∃ zz9 : ME, zz9 = va_up μ 136 (.inr (5, [.int (nI (Ln (AL S))), .ref (xa cx 137), .ref (xa cx 138), .ref (xa cx 139), .int rh, .ref (xa cx 140), .int (nI (An S)), .ref (xa cx 141), .ref (xa cx 142), .int (nI (Az S)), .int (nI nx), .ref (xa cx 143), .int (nI (Ay S)), .ref (xa cx 144), .ref (xa cx 145), .ref (xa cx 146), .long (v), .ref (xa cx 147), .ref (xa cx 148)])) := ⟨_, rfl⟩
  have hW : St cx s μ1 H locs := by rw [eμ1]; exact hW
  have h136_1 : μ1 136 = .inr (5, [.int (nI (Ln (AL S))), .ref (xa cx 137), .ref (xa cx 138), .ref (xa cx 139), .int rh, .ref (xa cx 140), .int (nI (An S)), .ref (xa cx 141), .ref (xa cx 142), .int (nI (Az S)), .int (nI nx), .ref (xa cx 143), .int (nI (Ay S)), .ref (xa cx 144), .ref (xa cx 145), .ref (xa cx 146), .long (v), .ref (xa cx 147), .ref (xa cx 148)]) := by rw [eμ1, va_up_self]
  have h137_1 := (congrFun eμ1 137).trans ((va_up_ne _ _ (by omega)).trans g137)
  have h138_1 := (congrFun eμ1 138).trans ((va_up_ne _ _ (by omega)).trans g138)
  have h139_1 := (congrFun eμ1 139).trans ((va_up_ne _ _ (by omega)).trans g139)
  have h140_1 := (congrFun eμ1 140).trans ((va_up_ne _ _ (by omega)).trans g140)
  have h141_1 := (congrFun eμ1 141).trans ((va_up_ne _ _ (by omega)).trans g141)
  have h142_1 := (congrFun eμ1 142).trans ((va_up_ne _ _ (by omega)).trans g142)
  have h143_1 := (congrFun eμ1 143).trans ((va_up_ne _ _ (by omega)).trans g143)
  have h144_1 := (congrFun eμ1 144).trans ((va_up_ne _ _ (by omega)).trans g144)
  have h145_1 := (congrFun eμ1 145).trans ((va_up_ne _ _ (by omega)).trans g145)
  have h146_1 := (congrFun eμ1 146).trans ((va_up_ne _ _ (by omega)).trans g146)
  have h147_1 := (congrFun eμ1 147).trans ((va_up_ne _ _ (by omega)).trans g147)
  have h148_1 := (congrFun eμ1 148).trans ((va_up_ne _ _ (by omega)).trans g148)
  refine lv_lload_n hx hb dX5_seed_10 rfl (lv_at hl 0 rfl) ?_
  exact rt_le F hr hlk hW rfl ⟨⟨rh, nx, f1, fn, frd, ft, fo, fa, frw, fh, fu, fb, fz, fkp, h136_1, h137_1, h138_1, h139_1, h140_1, h141_1, h142_1, h143_1, h144_1, h145_1, h146_1, h147_1, h148_1, hg, hv, ht, hnx, hrw, hse, hkp, trivial⟩, (fun z hz => by rw [eμ1, va_up_ne _ _ (by omega)])⟩ dX5_seed_11

set_option maxHeartbeats 4000000 in
set_option maxRecDepth 100000 in
theorem x_keep {cx : CX} (hI : xI cx) (l : Launch) {μ : ME} {S : AS} {B : Nat} {Tr : (Nat → Int32) → Prop} (hN : 149 ≤ xN cx) (hX : modX cx μ S Tr) (hA : aok S B) (hMo : mok S) (hB : B < 800000) (q : Int32) : MT cx l yX5_keep cX5_keep 3 (some .int) 1 25 [.ref (xa cx 136), .int q] μ (Ei cx (r_keep S q) (fun μ1 => modX cx μ1 (s_keep S q) (fun _ => True) ∧ off 136 13 μ μ1)) := by
  refine mt_of hI (by decide) (Nat.le_of_ble_eq_true rfl) ?_
  intro p e s m below meth c ls F hr hlk hW hl
  have hx := F.1.1
  have hb := F.1.2.1
  have hts := F.1.2.2.2.2
  obtain ⟨rh, nx, f1, fn, frd, ft, fo, fa, frw, fh, fu, fb, fz, fkp, g136, g137, g138, g139, g140, g141, g142, g143, g144, g145, g146, g147, g148, hg, hv, ht, hnx, hrw, hse, hkp, hTr⟩ := id hX
  have hk := hA.2.1
  have hn6 := hk.1
  have hk4 := hk.2.2.2.1
  have hU := lok_U hk
  have hV0 := modX_V0 hX
  have hl : lv_has ls 3 [(0, .ref (xa cx 136)), (1, .int q)] := hl
  refine lv_iload_n hx hb dX5_keep_0 rfl (lv_at hl 1 rfl) ?_
  refine lv_i2l hx hb dX5_keep_1 rfl ?_
  refine lv_lconst (v := lN 0) hx hb dX5_keep_2 (by decide) ?_
  refine lv_lconst (v := lN 1) hx hb dX5_keep_3 (by decide) ?_
  refine cl_ip (cl_runS (rest := []) F hW e_X5_49 (m_in hI l ((q.toInt64)) ((lN 0)) ((lN 1))) ⟨Nat.le_of_ble_eq_true rfl, Nat.le_of_ble_eq_true rfl⟩ rfl rfl hl (Nat.le_of_ble_eq_true rfl) dX5_keep_4 ⟨Nat.zero_le _, Nat.zero_le _⟩) hW (fun H locs hW => ?_)
  refine nv_top (y := ((b2 (inR q 2)))) (congrArg b2 (inL_R (by decide))) ?_
  refine nv_bne (tgt := 12) F dX5_keep_7 (by decide) (fun c_1 => ?_) (fun c_1 => ?_)
  · skip
    obtain ⟨j, hj, rfl⟩ := inR_of (show inR q 2 = true by assumption) (by omega)
    refine lv_aload_n hx hb dX5_keep_12 rfl (lv_at hl 0 rfl) ?_
    refine nv_get F hW (by omega) g136 rfl iX5 17 (by decide) tw_646 rfl dX5_keep_13 ?_
    refine lv_iload_n hx hb dX5_keep_16 rfl (lv_at hl 1 rfl) ?_
    refine lv_iconst (v := nI 1) hx hb dX5_keep_17 (by decide) ?_
    refine nv_zastN F hW (by omega) g147 (by omega) (by decide) rfl dX5_keep_18 (fun H locs hW => ?_)
    obtain ⟨μ2, eμ2⟩ : ∃ zz9 : ME, zz9 = va_up μ 147 (.inl (xT cx 2, 2, .inl (upd fz j ((nI 1))))) := ⟨_, rfl⟩
    have hW : St cx s μ2 H locs := by rw [eμ2]; exact hW
    have h136_2 := (congrFun eμ2 136).trans ((va_up_ne _ _ (by omega)).trans g136)
    have h137_2 := (congrFun eμ2 137).trans ((va_up_ne _ _ (by omega)).trans g137)
    have h138_2 := (congrFun eμ2 138).trans ((va_up_ne _ _ (by omega)).trans g138)
    have h139_2 := (congrFun eμ2 139).trans ((va_up_ne _ _ (by omega)).trans g139)
    have h140_2 := (congrFun eμ2 140).trans ((va_up_ne _ _ (by omega)).trans g140)
    have h141_2 := (congrFun eμ2 141).trans ((va_up_ne _ _ (by omega)).trans g141)
    have h142_2 := (congrFun eμ2 142).trans ((va_up_ne _ _ (by omega)).trans g142)
    have h143_2 := (congrFun eμ2 143).trans ((va_up_ne _ _ (by omega)).trans g143)
    have h144_2 := (congrFun eμ2 144).trans ((va_up_ne _ _ (by omega)).trans g144)
    have h145_2 := (congrFun eμ2 145).trans ((va_up_ne _ _ (by omega)).trans g145)
    have h146_2 := (congrFun eμ2 146).trans ((va_up_ne _ _ (by omega)).trans g146)
    have h147_2 : μ2 147 = .inl (xT cx 2, 2, .inl (upd fz j ((nI 1)))) := by rw [eμ2, va_up_self]
    have h148_2 := (congrFun eμ2 148).trans ((va_up_ne _ _ (by omega)).trans g148)
    refine lv_iconst (v := nI 0) hx hb dX5_keep_19 (by decide) ?_
    refine lv_istore_n (lv' := [(2, .int (nI 0)), (0, .ref (xa cx 136)), (1, .int (nI j))]) hx hb dX5_keep_20 rfl hl (by decide) rfl (fun ls hl => ?_)
    have LOOP : ∀ (d i : Nat) (q : Nat → Int32) (μ1 : ME) (H : Heap) (locs : List Loc) (ls : Array Slot), i + d = 31 → (μ1 148 = .inl (xT cx 0, 62, .inl q)) → (∀ z, ¬ z = 148 → μ1 z = μ2 z) → (∀ z, (z < 31 * j ∨ 31 * j + 31 ≤ z) → q z = fkp z) → (∀ z, z < i → q (31 * j + z) = fn (z)) → St cx s μ1 H locs → lv_has ls 3 [(0, .ref (xa cx 136)), (1, .int (nI j)), (2, .int (nI i))] → W p l e { frames := 1, cells := 0, slots := 0, locals := 25 } s m [.ref (xa cx 136), .int (nI j)].toArray below meth c H locs 0 0 (MQ below (Ei cx (r_keep S (nI j)) (fun μ1 => modX cx μ1 (s_keep S (nI j)) (fun _ => True) ∧ off 136 13 μ μ1)) [.ref (xa cx 136), .int (nI j)].toArray s 0 0 (xA cx)) (F0 m 21 ls []) := by
      intro d
      induction d with
      | zero =>
        intro i q μ1 H locs ls hid hq hqo hq0 hq1 hW hl
        have k136 := (hqo 136 (by omega)).trans h136_2
        have k137 := (hqo 137 (by omega)).trans h137_2
        have k138 := (hqo 138 (by omega)).trans h138_2
        have k139 := (hqo 139 (by omega)).trans h139_2
        have k140 := (hqo 140 (by omega)).trans h140_2
        have k141 := (hqo 141 (by omega)).trans h141_2
        have k142 := (hqo 142 (by omega)).trans h142_2
        have k143 := (hqo 143 (by omega)).trans h143_2
        have k144 := (hqo 144 (by omega)).trans h144_2
        have k145 := (hqo 145 (by omega)).trans h145_2
        have k146 := (hqo 146 (by omega)).trans h146_2
        have k147 := (hqo 147 (by omega)).trans h147_2
        refine lv_iload_n hx hb dX5_keep_21 rfl (lv_at hl 2 rfl) ?_
        refine lv_bipush (v := nI 31) hx hb dX5_keep_22 (by decide) ?_
        refine nv_cge (tgt := 50) F (by omega) (by omega) dX5_keep_24 (by decide) (fun c_3 => ?_) (fun c_3 => ?_)
        · skip
          refine lv_aload_n hx hb dX5_keep_50 rfl (lv_at hl 0 rfl) ?_
          refine nv_get F hW (by omega) k136 rfl iX5 2 (by decide) tw_631 rfl dX5_keep_51 ?_
          refine lv_bipush (v := nI 30) hx hb dX5_keep_54 (by decide) ?_
          refine nv_ialdN (x := ((nI (Lh (AL S))))) F hW (by omega) k138 (by omega) (by decide) hv.2 dX5_keep_56 ?_
          exact rt_ie F hr hlk hW (by unfold r_keep; rw [inR_j hj (by omega)]; rfl) ⟨by unfold s_keep; rw [inR_j hj (by omega), nI_clamp (by omega), if_pos rfl]; exact ⟨rh, nx, f1, fn, frd, ft, fo, fa, frw, fh, fu, fb, (upd fz j ((nI 1))), q, k136, k137, k138, k139, k140, k141, k142, k143, k144, k145, k146, k147, hq, hg, hv, ht, hnx, hrw, hse, fun t ht9 => by
      show upd fz j (nI 1) t = b2 ((Ak S ||| 2 ^ j).testBit t) ∧ ((Ak S ||| 2 ^ j).testBit t = true → lv q (31 * t) (if t = j then AL S else AK S t))
      rw [Nat.testBit_or, Nat.testBit_two_pow]
      by_cases e9 : t = j
      · subst e9
        rw [upd_eq rfl, decide_eq_true rfl, Bool.or_true, if_pos rfl]
        exact ⟨rfl, fun _ => lv_move hv hn6 (fun z hz => by rw [hq1 z (by omega), Nat.zero_add])⟩
      · rw [upd_ne e9, decide_eq_false (fun z => e9 z.symm), Bool.or_false, if_neg e9]
        refine ⟨(hkp t ht9).1, fun hb9 => ?_⟩
        exact lv_cong ((hkp t ht9).2 hb9) (by rw [(hMo.2 t ht9 hb9).1]; exact hn6) (fun z h1 h2 => hq0 z (by omega)), trivial⟩, (fun z hz => by rw [hqo z (by omega)]; rw [eμ2, va_up_ne _ _ (by omega)])⟩ dX5_keep_57
        · skip
          exact absurd c_3 (by omega)
      | succ d ih =>
        intro i q μ1 H locs ls hid hq hqo hq0 hq1 hW hl
        have k136 := (hqo 136 (by omega)).trans h136_2
        have k137 := (hqo 137 (by omega)).trans h137_2
        have k138 := (hqo 138 (by omega)).trans h138_2
        have k139 := (hqo 139 (by omega)).trans h139_2
        have k140 := (hqo 140 (by omega)).trans h140_2
        have k141 := (hqo 141 (by omega)).trans h141_2
        have k142 := (hqo 142 (by omega)).trans h142_2
        have k143 := (hqo 143 (by omega)).trans h143_2
        have k144 := (hqo 144 (by omega)).trans h144_2
        have k145 := (hqo 145 (by omega)).trans h145_2
        have k146 := (hqo 146 (by omega)).trans h146_2
        have k147 := (hqo 147 (by omega)).trans h147_2
        refine lv_iload_n hx hb dX5_keep_21 rfl (lv_at hl 2 rfl) ?_
        refine lv_bipush (v := nI 31) hx hb dX5_keep_22 (by decide) ?_
        refine nv_cge (tgt := 50) F (by omega) (by omega) dX5_keep_24 (by decide) (fun c_4 => ?_) (fun c_4 => ?_)
        · skip
          exact absurd c_4 (by omega)
        · skip
          refine lv_aload_n hx hb dX5_keep_27 rfl (lv_at hl 0 rfl) ?_
          refine nv_get F hW (by omega) k136 rfl iX5 18 (by decide) tw_647 rfl dX5_keep_28 ?_
          refine lv_bipush (v := nI 31) hx hb dX5_keep_31 (by decide) ?_
          refine lv_iload_n hx hb dX5_keep_33 rfl (lv_at hl 1 rfl) ?_
          refine nv_mul F dX5_keep_34 ?_
          refine lv_iload_n hx hb dX5_keep_35 rfl (lv_at hl 2 rfl) ?_
          refine nv_add F dX5_keep_36 ?_
          refine lv_aload_n hx hb dX5_keep_37 rfl (lv_at hl 0 rfl) ?_
          refine nv_get F hW (by omega) k136 rfl iX5 2 (by decide) tw_631 rfl dX5_keep_38 ?_
          refine lv_iload_n hx hb dX5_keep_41 rfl (lv_at hl 2 rfl) ?_
          refine nv_ialdN (x := ((fn i))) F hW (by omega) k138 (by omega) (by decide) rfl dX5_keep_42 ?_
          refine nv_iastN F hW (by omega) hq (by omega) (by decide) dX5_keep_43 (fun H locs hW => ?_)
          obtain ⟨μ5, eμ5⟩ : ∃ zz9 : ME, zz9 = va_up μ1 148 (.inl (xT cx 0, 62, .inl (upd q ((31 * j) + i) ((fn i))))) := ⟨_, rfl⟩
          have hW : St cx s μ5 H locs := by rw [eμ5]; exact hW
          have h136_5 := (congrFun eμ5 136).trans ((va_up_ne _ _ (by omega)).trans k136)
          have h137_5 := (congrFun eμ5 137).trans ((va_up_ne _ _ (by omega)).trans k137)
          have h138_5 := (congrFun eμ5 138).trans ((va_up_ne _ _ (by omega)).trans k138)
          have h139_5 := (congrFun eμ5 139).trans ((va_up_ne _ _ (by omega)).trans k139)
          have h140_5 := (congrFun eμ5 140).trans ((va_up_ne _ _ (by omega)).trans k140)
          have h141_5 := (congrFun eμ5 141).trans ((va_up_ne _ _ (by omega)).trans k141)
          have h142_5 := (congrFun eμ5 142).trans ((va_up_ne _ _ (by omega)).trans k142)
          have h143_5 := (congrFun eμ5 143).trans ((va_up_ne _ _ (by omega)).trans k143)
          have h144_5 := (congrFun eμ5 144).trans ((va_up_ne _ _ (by omega)).trans k144)
          have h145_5 := (congrFun eμ5 145).trans ((va_up_ne _ _ (by omega)).trans k145)
          have h146_5 := (congrFun eμ5 146).trans ((va_up_ne _ _ (by omega)).trans k146)
          have h147_5 := (congrFun eμ5 147).trans ((va_up_ne _ _ (by omega)).trans k147)
          have h148_5 : μ5 148 = .inl (xT cx 0, 62, .inl (upd q ((31 * j) + i) ((fn i)))) := by rw [eμ5, va_up_self]
          refine lv_iinc (v := ((nI (i + 1)))) (lv' := [(2, .int (nI (i + 1))), (0, .ref (xa cx 136)), (1, .int (nI j))]) hx hb dX5_keep_44 hl (k := 2) rfl (nI_add _ _) (by decide) rfl (fun ls hl => ?_)
          refine lv_goto (tgt := 21) hx hb dX5_keep_47 (by decide) ?_
          exact ih (i + 1) _ μ5 _ _ _ (by omega) h148_5 (fun z hz => ((congrFun eμ5 z).trans (va_up_ne _ _ hz)).trans (hqo z hz)) (fun z hz => by rw [upd_ne (by omega)]; exact hq0 z hz) (fun z hz => (Nat.lt_or_ge z i).elim (fun a => by rw [upd_ne (by omega)]; exact hq1 z a) (fun a => by rw [upd_eq (by omega), show z = i by omega])) hW (lv_sub hl [1, 2, 0] rfl)
    exact LOOP 31 0 fkp μ2 _ _ _ (by omega) h148_2 (fun _ _ => rfl) (fun _ _ => rfl) (fun z hz => absurd hz (by omega)) hW (lv_sub hl [1, 2, 0] rfl)
  · skip
    refine lv_iconst (v := (-1)) hx hb dX5_keep_10 (by decide) ?_
    exact rt_ie F hr hlk hW (by unfold r_keep; rw [‹inR q 2 = false›]; rfl) ⟨by unfold s_keep; rw [‹inR q 2 = false›]; exact (modX_tr hX (fun _ _ => trivial)), off_rf⟩ dX5_keep_11

set_option maxHeartbeats 4000000 in
set_option maxRecDepth 100000 in
theorem x_again {cx : CX} (hI : xI cx) (l : Launch) {μ : ME} {S : AS} {B : Nat} {Tr : (Nat → Int32) → Prop} (hN : 149 ≤ xN cx) (hX : modX cx μ S Tr) (hA : aok S B) (hMo : mok S) (hB : B < 800000) (q : Int32) : MT cx l yX5_again cX5_again 3 (some .int) 1 25 [.ref (xa cx 136), .int q] μ (Ei cx (r_again S q) (fun μ1 => modX cx μ1 (s_again S q) (fun _ => True) ∧ off 136 13 μ μ1)) := by
  refine mt_of hI (by decide) (Nat.le_of_ble_eq_true rfl) ?_
  intro p e s m below meth c ls F hr hlk hW hl
  have hx := F.1.1
  have hb := F.1.2.1
  have hts := F.1.2.2.2.2
  obtain ⟨rh, nx, f1, fn, frd, ft, fo, fa, frw, fh, fu, fb, fz, fkp, g136, g137, g138, g139, g140, g141, g142, g143, g144, g145, g146, g147, g148, hg, hv, ht, hnx, hrw, hse, hkp, hTr⟩ := id hX
  have hk := hA.2.1
  have hn6 := hk.1
  have hk4 := hk.2.2.2.1
  have hU := lok_U hk
  have hV0 := modX_V0 hX
  have hl : lv_has ls 3 [(0, .ref (xa cx 136)), (1, .int q)] := hl
  refine lv_iload_n hx hb dX5_again_0 rfl (lv_at hl 1 rfl) ?_
  refine lv_i2l hx hb dX5_again_1 rfl ?_
  refine lv_lconst (v := lN 0) hx hb dX5_again_2 (by decide) ?_
  refine lv_lconst (v := lN 1) hx hb dX5_again_3 (by decide) ?_
  refine cl_ip (cl_runS (rest := []) F hW e_X5_49 (m_in hI l ((q.toInt64)) ((lN 0)) ((lN 1))) ⟨Nat.le_of_ble_eq_true rfl, Nat.le_of_ble_eq_true rfl⟩ rfl rfl hl (Nat.le_of_ble_eq_true rfl) dX5_again_4 ⟨Nat.zero_le _, Nat.zero_le _⟩) hW (fun H locs hW => ?_)
  refine nv_top (y := ((b2 (inR q 2)))) (congrArg b2 (inL_R (by decide))) ?_
  refine nv_bne (tgt := 12) F dX5_again_7 (by decide) (fun c_1 => ?_) (fun c_1 => ?_)
  · skip
    obtain ⟨j, hj, rfl⟩ := inR_of (show inR q 2 = true by assumption) (by omega)
    refine lv_aload_n hx hb dX5_again_12 rfl (lv_at hl 0 rfl) ?_
    refine nv_get F hW (by omega) g136 rfl iX5 17 (by decide) tw_646 rfl dX5_again_13 ?_
    refine lv_iload_n hx hb dX5_again_16 rfl (lv_at hl 1 rfl) ?_
    refine nv_zaldN (x := ((b2 ((Ak S).testBit j)))) F hW (by omega) g147 (by omega) (by decide) (hkp j hj).1 dX5_again_17 ?_
    refine nv_bne (tgt := 24) F dX5_again_18 (by decide) (fun c_2 => ?_) (fun c_2 => ?_)
    · skip
      have hbj : (Ak S).testBit j = true := c_2
      refine lv_iconst (v := nI 0) hx hb dX5_again_24 (by decide) ?_
      refine lv_istore_n (lv' := [(2, .int (nI 0)), (0, .ref (xa cx 136)), (1, .int (nI j))]) hx hb dX5_again_25 rfl hl (by decide) rfl (fun ls hl => ?_)
      have LOOP : ∀ (d i : Nat) (q : Nat → Int32) (μ1 : ME) (H : Heap) (locs : List Loc) (ls : Array Slot), i + d = 31 → (μ1 138 = .inl (xT cx 0, 62, .inl q)) → (∀ z, ¬ z = 138 → μ1 z = μ z) → (∀ z, (z < 0 ∨ 0 + 31 ≤ z) → q z = fn z) → (∀ z, z < i → q (z) = fkp (31 * j + z)) → St cx s μ1 H locs → lv_has ls 3 [(0, .ref (xa cx 136)), (1, .int (nI j)), (2, .int (nI i))] → W p l e { frames := 1, cells := 0, slots := 0, locals := 25 } s m [.ref (xa cx 136), .int (nI j)].toArray below meth c H locs 0 0 (MQ below (Ei cx (r_again S (nI j)) (fun μ1 => modX cx μ1 (s_again S (nI j)) (fun _ => True) ∧ off 136 13 μ μ1)) [.ref (xa cx 136), .int (nI j)].toArray s 0 0 (xA cx)) (F0 m 26 ls []) := by
        intro d
        induction d with
        | zero =>
          intro i q μ1 H locs ls hid hq hqo hq0 hq1 hW hl
          have k136 := (hqo 136 (by omega)).trans g136
          have k137 := (hqo 137 (by omega)).trans g137
          have k139 := (hqo 139 (by omega)).trans g139
          have k140 := (hqo 140 (by omega)).trans g140
          have k141 := (hqo 141 (by omega)).trans g141
          have k142 := (hqo 142 (by omega)).trans g142
          have k143 := (hqo 143 (by omega)).trans g143
          have k144 := (hqo 144 (by omega)).trans g144
          have k145 := (hqo 145 (by omega)).trans g145
          have k146 := (hqo 146 (by omega)).trans g146
          have k147 := (hqo 147 (by omega)).trans g147
          have k148 := (hqo 148 (by omega)).trans g148
          refine lv_iload_n hx hb dX5_again_26 rfl (lv_at hl 2 rfl) ?_
          refine lv_bipush (v := nI 31) hx hb dX5_again_27 (by decide) ?_
          refine nv_cge (tgt := 55) F (by omega) (by omega) dX5_again_29 (by decide) (fun c_3 => ?_) (fun c_3 => ?_)
          · skip
            refine lv_aload_n hx hb dX5_again_55 rfl (lv_at hl 0 rfl) ?_
            refine lv_iconst (v := nI 0) hx hb dX5_again_56 (by decide) ?_
            refine nv_put F hW (by omega) k136 rfl iX5 tyX5 tyX5_ok nmX5 9 (by decide) tw_638 rfl rfl rfl (Nat.le_of_ble_eq_true rfl) dX5_again_57 (fun H locs hW => ?_)
            obtain ⟨μ4, eμ4⟩ : ∃ zz9 : ME, zz9 = va_up μ1 136 (.inr (5, [.int (nI (Ln (AL S))), .ref (xa cx 137), .ref (xa cx 138), .ref (xa cx 139), .int rh, .ref (xa cx 140), .int (nI (An S)), .ref (xa cx 141), .ref (xa cx 142), .int (nI 0), .int (nI nx), .ref (xa cx 143), .int (nI (Ay S)), .ref (xa cx 144), .ref (xa cx 145), .ref (xa cx 146), .long (Ad S), .ref (xa cx 147), .ref (xa cx 148)])) := ⟨_, rfl⟩
            have hW : St cx s μ4 H locs := by rw [eμ4]; exact hW
            have h136_4 : μ4 136 = .inr (5, [.int (nI (Ln (AL S))), .ref (xa cx 137), .ref (xa cx 138), .ref (xa cx 139), .int rh, .ref (xa cx 140), .int (nI (An S)), .ref (xa cx 141), .ref (xa cx 142), .int (nI 0), .int (nI nx), .ref (xa cx 143), .int (nI (Ay S)), .ref (xa cx 144), .ref (xa cx 145), .ref (xa cx 146), .long (Ad S), .ref (xa cx 147), .ref (xa cx 148)]) := by rw [eμ4, va_up_self]
            have h137_4 := (congrFun eμ4 137).trans ((va_up_ne _ _ (by omega)).trans k137)
            have h138_4 := (congrFun eμ4 138).trans ((va_up_ne _ _ (by omega)).trans hq)
            have h139_4 := (congrFun eμ4 139).trans ((va_up_ne _ _ (by omega)).trans k139)
            have h140_4 := (congrFun eμ4 140).trans ((va_up_ne _ _ (by omega)).trans k140)
            have h141_4 := (congrFun eμ4 141).trans ((va_up_ne _ _ (by omega)).trans k141)
            have h142_4 := (congrFun eμ4 142).trans ((va_up_ne _ _ (by omega)).trans k142)
            have h143_4 := (congrFun eμ4 143).trans ((va_up_ne _ _ (by omega)).trans k143)
            have h144_4 := (congrFun eμ4 144).trans ((va_up_ne _ _ (by omega)).trans k144)
            have h145_4 := (congrFun eμ4 145).trans ((va_up_ne _ _ (by omega)).trans k145)
            have h146_4 := (congrFun eμ4 146).trans ((va_up_ne _ _ (by omega)).trans k146)
            have h147_4 := (congrFun eμ4 147).trans ((va_up_ne _ _ (by omega)).trans k147)
            have h148_4 := (congrFun eμ4 148).trans ((va_up_ne _ _ (by omega)).trans k148)
            refine lv_aload_n hx hb dX5_again_60 rfl (lv_at hl 0 rfl) ?_
            refine nv_get F hW (by omega) h136_4 rfl iX5 2 (by decide) tw_631 rfl dX5_again_61 ?_
            refine lv_bipush (v := nI 30) hx hb dX5_again_64 (by decide) ?_
            refine nv_ialdN (x := ((nI (Lh (AK S j))))) F hW (by omega) h138_4 (by omega) (by decide) ((hq1 30 (by omega)).trans ((hkp j hj).2 hbj).2) dX5_again_66 ?_
            have h00 := hMo.2 j hj hbj
            exact rt_ie F hr hlk hW (by unfold r_again; rw [inR_j hj (by omega), if_pos rfl, nI_clamp (by omega), hbj]; rfl) ⟨by unfold s_again; rw [inR_j hj (by omega), nI_clamp (by omega), hbj, if_pos (show (true && true) = true from rfl)]; exact ⟨rh, nx, f1, q, frd, ft, fo, fa, frw, fh, fu, fb, fz, fkp, by show _ = (.inr (5, [.int (nI (Ln (AK S j))), .ref (xa cx 137), .ref (xa cx 138), .ref (xa cx 139), .int rh, .ref (xa cx 140), .int (nI (An S)), .ref (xa cx 141), .ref (xa cx 142), .int (nI (0)), .int (nI nx), .ref (xa cx 143), .int (nI (Ay S)), .ref (xa cx 144), .ref (xa cx 145), .ref (xa cx 146), .long (Ad S), .ref (xa cx 147), .ref (xa cx 148)]) : va_E); rw [h00.1]; exact h136_4, h137_4, h138_4, h139_4, h140_4, h141_4, h142_4, h143_4, h144_4, h145_4, h146_4, h147_4, h148_4, fun z hz => by have hz : z < Ln (AK S j) := hz; rw [h00.1] at hz; rw [hg z hz]; show _ = nI (Lg (AK S j) z); rw [h00.2 z hz], lv_move ((hkp j hj).2 hbj) (by show Ln (AK S j) ≤ 6; rw [h00.1]; exact hn6) (fun z hz => by rw [Nat.zero_add, hq1 z (by omega)]), ht, hnx, fun k hk9 => absurd (show k < 0 from hk9) (by omega), hse, hkp, trivial⟩, (fun z hz => by rw [eμ4, va_up_ne _ _ (by omega)]; rw [hqo z (by omega)])⟩ dX5_again_67
          · skip
            exact absurd c_3 (by omega)
        | succ d ih =>
          intro i q μ1 H locs ls hid hq hqo hq0 hq1 hW hl
          have k136 := (hqo 136 (by omega)).trans g136
          have k137 := (hqo 137 (by omega)).trans g137
          have k139 := (hqo 139 (by omega)).trans g139
          have k140 := (hqo 140 (by omega)).trans g140
          have k141 := (hqo 141 (by omega)).trans g141
          have k142 := (hqo 142 (by omega)).trans g142
          have k143 := (hqo 143 (by omega)).trans g143
          have k144 := (hqo 144 (by omega)).trans g144
          have k145 := (hqo 145 (by omega)).trans g145
          have k146 := (hqo 146 (by omega)).trans g146
          have k147 := (hqo 147 (by omega)).trans g147
          have k148 := (hqo 148 (by omega)).trans g148
          refine lv_iload_n hx hb dX5_again_26 rfl (lv_at hl 2 rfl) ?_
          refine lv_bipush (v := nI 31) hx hb dX5_again_27 (by decide) ?_
          refine nv_cge (tgt := 55) F (by omega) (by omega) dX5_again_29 (by decide) (fun c_5 => ?_) (fun c_5 => ?_)
          · skip
            exact absurd c_5 (by omega)
          · skip
            refine lv_aload_n hx hb dX5_again_32 rfl (lv_at hl 0 rfl) ?_
            refine nv_get F hW (by omega) k136 rfl iX5 2 (by decide) tw_631 rfl dX5_again_33 ?_
            refine lv_iload_n hx hb dX5_again_36 rfl (lv_at hl 2 rfl) ?_
            refine lv_aload_n hx hb dX5_again_37 rfl (lv_at hl 0 rfl) ?_
            refine nv_get F hW (by omega) k136 rfl iX5 18 (by decide) tw_647 rfl dX5_again_38 ?_
            refine lv_bipush (v := nI 31) hx hb dX5_again_41 (by decide) ?_
            refine lv_iload_n hx hb dX5_again_43 rfl (lv_at hl 1 rfl) ?_
            refine nv_mul F dX5_again_44 ?_
            refine lv_iload_n hx hb dX5_again_45 rfl (lv_at hl 2 rfl) ?_
            refine nv_add F dX5_again_46 ?_
            refine nv_ialdN (x := ((fkp ((31 * j) + i)))) F hW (by omega) k148 (by omega) (by decide) rfl dX5_again_47 ?_
            refine nv_iastN F hW (by omega) hq (by omega) (by decide) dX5_again_48 (fun H locs hW => ?_)
            obtain ⟨μ6, eμ6⟩ : ∃ zz9 : ME, zz9 = va_up μ1 138 (.inl (xT cx 0, 62, .inl (upd q i ((fkp ((31 * j) + i)))))) := ⟨_, rfl⟩
            have hW : St cx s μ6 H locs := by rw [eμ6]; exact hW
            have h136_6 := (congrFun eμ6 136).trans ((va_up_ne _ _ (by omega)).trans k136)
            have h137_6 := (congrFun eμ6 137).trans ((va_up_ne _ _ (by omega)).trans k137)
            have h138_6 : μ6 138 = .inl (xT cx 0, 62, .inl (upd q i ((fkp ((31 * j) + i))))) := by rw [eμ6, va_up_self]
            have h139_6 := (congrFun eμ6 139).trans ((va_up_ne _ _ (by omega)).trans k139)
            have h140_6 := (congrFun eμ6 140).trans ((va_up_ne _ _ (by omega)).trans k140)
            have h141_6 := (congrFun eμ6 141).trans ((va_up_ne _ _ (by omega)).trans k141)
            have h142_6 := (congrFun eμ6 142).trans ((va_up_ne _ _ (by omega)).trans k142)
            have h143_6 := (congrFun eμ6 143).trans ((va_up_ne _ _ (by omega)).trans k143)
            have h144_6 := (congrFun eμ6 144).trans ((va_up_ne _ _ (by omega)).trans k144)
            have h145_6 := (congrFun eμ6 145).trans ((va_up_ne _ _ (by omega)).trans k145)
            have h146_6 := (congrFun eμ6 146).trans ((va_up_ne _ _ (by omega)).trans k146)
            have h147_6 := (congrFun eμ6 147).trans ((va_up_ne _ _ (by omega)).trans k147)
            have h148_6 := (congrFun eμ6 148).trans ((va_up_ne _ _ (by omega)).trans k148)
            refine lv_iinc (v := ((nI (i + 1)))) (lv' := [(2, .int (nI (i + 1))), (0, .ref (xa cx 136)), (1, .int (nI j))]) hx hb dX5_again_49 hl (k := 2) rfl (nI_add _ _) (by decide) rfl (fun ls hl => ?_)
            refine lv_goto (tgt := 26) hx hb dX5_again_52 (by decide) ?_
            exact ih (i + 1) _ μ6 _ _ _ (by omega) h138_6 (fun z hz => ((congrFun eμ6 z).trans (va_up_ne _ _ hz)).trans (hqo z hz)) (fun z hz => by rw [upd_ne (by omega)]; exact hq0 z hz) (fun z hz => (Nat.lt_or_ge z i).elim (fun a => by rw [upd_ne (by omega)]; exact hq1 z a) (fun a => by rw [upd_eq (by omega), show z = i by omega])) hW (lv_sub hl [1, 2, 0] rfl)
      exact LOOP 31 0 fn μ _ _ _ (by omega) g138 (fun _ _ => rfl) (fun _ _ => rfl) (fun z hz => absurd hz (by omega)) hW (lv_sub hl [1, 2, 0] rfl)
    · skip
      refine lv_bipush (v := (-3)) hx hb dX5_again_21 (by decide) ?_
      exact rt_ie F hr hlk hW (by unfold r_again; rw [inR_j hj (by omega), if_pos rfl, nI_clamp (by omega), ‹(Ak S).testBit j = false›]; rfl) ⟨by unfold s_again; rw [inR_j hj (by omega), nI_clamp (by omega), ‹(Ak S).testBit j = false›]; exact (modX_tr hX (fun _ _ => trivial)), off_rf⟩ dX5_again_23
  · skip
    refine lv_iconst (v := (-1)) hx hb dX5_again_10 (by decide) ?_
    exact rt_ie F hr hlk hW (by unfold r_again; rw [‹inR q 2 = false›]; rfl) ⟨by unfold s_again; rw [‹inR q 2 = false›]; exact (modX_tr hX (fun _ _ => trivial)), off_rf⟩ dX5_again_11

def togF (L : LN) (w h : Nat) : Nat := if w = 4 then Ls L h else if w = 5 then lgr L h else if Ld L h = 2 then lgi L h else 0

set_option maxHeartbeats 4000000 in
set_option maxRecDepth 100000 in
theorem m_together {cx : CX} (hI : xI cx) (l : Launch) {μ : ME} {S : AS} {B : Nat} {Tr : (Nat → Int32) → Prop} (hN : 149 ≤ xN cx) (hX : modX cx μ S Tr) (hA : aok S B) (hMo : mok S) (hB : B < 800000) (w : Nat) (hw : w = 4 ∨ w = 5 ∨ w = 6) : MT cx l yX5_together cX5_together 4 (some .int) 3 69 [.ref (xa cx 136), .int (nI w)] μ (Pi cx μ (nI (sumTo (togF (AL S) w) (Ln (AL S))))) := by
  refine mt_of hI (by decide) (Nat.le_of_ble_eq_true rfl) ?_
  intro p e s m below meth c ls F hr hlk hW hl
  have hx := F.1.1
  have hb := F.1.2.1
  have hts := F.1.2.2.2.2
  obtain ⟨rh, nx, f1, fn, frd, ft, fo, fa, frw, fh, fu, fb, fz, fkp, g136, g137, g138, g139, g140, g141, g142, g143, g144, g145, g146, g147, g148, hg, hv, ht, hnx, hrw, hse, hkp, hTr⟩ := id hX
  have hk := hA.2.1
  have hn6 := hk.1
  have hk4 := hk.2.2.2.1
  have hU := lok_U hk
  have hV0 := modX_V0 hX
  have hl : lv_has ls 4 [(0, .ref (xa cx 136)), (1, .int (nI w))] := hl
  refine lv_iconst (v := nI 0) hx hb dX5_together_0 (by decide) ?_
  refine lv_istore_n (lv' := [(2, .int (nI 0)), (0, .ref (xa cx 136)), (1, .int (nI w))]) hx hb dX5_together_1 rfl hl (by decide) rfl (fun ls hl => ?_)
  refine lv_iconst (v := nI 0) hx hb dX5_together_2 (by decide) ?_
  refine lv_istore_n (lv' := [(3, .int (nI 0)), (2, .int (nI 0)), (0, .ref (xa cx 136)), (1, .int (nI w))]) hx hb dX5_together_3 rfl hl (by decide) rfl (fun ls hl => ?_)
  have LOOP : ∀ (d i : Nat)  (H : Heap) (locs : List Loc) (ls : Array Slot), i + d = Ln (AL S) → St cx s μ H locs → lv_has ls 4 [(0, .ref (xa cx 136)), (1, .int (nI w)), (2, .int (nI (sumTo (togF (AL S) w) i))), (3, .int (nI i))] → W p l e { frames := 3, cells := 0, slots := 0, locals := 69 } s m [.ref (xa cx 136), .int (nI w)].toArray below meth c H locs 0 0 (MQ below (Pi cx μ (nI (sumTo (togF (AL S) w) (Ln (AL S))))) [.ref (xa cx 136), .int (nI w)].toArray s 0 0 (xA cx)) (F0 m 4 ls []) := by
    intro d
    induction d with
    | zero =>
      intro i   H locs ls hid  hW hl
      refine lv_iload_n hx hb dX5_together_4 rfl (lv_at hl 3 rfl) ?_
      refine lv_aload_n hx hb dX5_together_5 rfl (lv_at hl 0 rfl) ?_
      refine nv_get F hW (by omega) g136 rfl iX5 0 (by decide) tw_629 rfl dX5_together_6 ?_
      refine nv_cge (tgt := 75) F (by omega) (by omega) dX5_together_9 (by decide) (fun c_1 => ?_) (fun c_1 => ?_)
      · skip
        refine lv_iload_n hx hb dX5_together_75 rfl (lv_at hl 2 rfl) ?_
        exact rt_ip F hr hlk hW (by rw [show i = Ln (AL S) by omega]) rfl dX5_together_76
      · skip
        exact absurd c_1 (by omega)
    | succ d ih =>
      intro i   H locs ls hid  hW hl
      refine lv_iload_n hx hb dX5_together_4 rfl (lv_at hl 3 rfl) ?_
      refine lv_aload_n hx hb dX5_together_5 rfl (lv_at hl 0 rfl) ?_
      refine nv_get F hW (by omega) g136 rfl iX5 0 (by decide) tw_629 rfl dX5_together_6 ?_
      refine nv_cge (tgt := 75) F (by omega) (by omega) dX5_together_9 (by decide) (fun c_2 => ?_) (fun c_2 => ?_)
      · skip
        exact absurd c_2 (by omega)
      · skip
        refine lv_iload_n hx hb dX5_together_12 rfl (lv_at hl 2 rfl) ?_
        refine lv_iload_n hx hb dX5_together_13 rfl (lv_at hl 1 rfl) ?_
        refine lv_iconst (v := nI 4) hx hb dX5_together_14 (by decide) ?_
        refine nv_cne (tgt := 30) F (by omega) (by omega) dX5_together_15 (by decide) (fun c_3 => ?_) (fun c_3 => ?_)
        · skip
          refine lv_iload_n hx hb dX5_together_30 rfl (lv_at hl 1 rfl) ?_
          refine lv_iconst (v := nI 5) hx hb dX5_together_31 (by decide) ?_
          refine nv_cne (tgt := 44) F (by omega) (by omega) dX5_together_32 (by decide) (fun c_4 => ?_) (fun c_4 => ?_)
          · skip
            refine lv_aload_n hx hb dX5_together_44 rfl (lv_at hl 0 rfl) ?_
            refine nv_get F hW (by omega) g136 rfl iX5 2 (by decide) tw_631 rfl dX5_together_45 ?_
            refine lv_bipush (v := nI 12) hx hb dX5_together_48 (by decide) ?_
            refine lv_iload_n hx hb dX5_together_50 rfl (lv_at hl 3 rfl) ?_
            refine nv_add F dX5_together_51 ?_
            refine nv_ialdN (x := ((nI (Ld (AL S) i)))) F hW (by omega) g138 (by omega) (by decide) (hv.1 i (by omega)).2.2.1 dX5_together_52 ?_
            refine lv_iconst (v := nI 2) hx hb dX5_together_53 (by decide) ?_
            refine nv_cne (tgt := 66) F (by have := (hk4 i (by omega)).2.2.2; omega) (by omega) dX5_together_54 (by decide) (fun c_5 => ?_) (fun c_5 => ?_)
            · skip
              refine lv_iconst (v := nI 0) hx hb dX5_together_66 (by decide) ?_
              refine nv_add F dX5_together_67 ?_
              refine lv_istore_n (lv' := [(2, .int (nI ((sumTo (togF (AL S) w) i) + 0))), (0, .ref (xa cx 136)), (1, .int (nI w)), (3, .int (nI i))]) hx hb dX5_together_68 rfl hl (by decide) rfl (fun ls hl => ?_)
              refine lv_iinc (v := ((nI (i + 1)))) (lv' := [(3, .int (nI (i + 1))), (2, .int (nI ((sumTo (togF (AL S) w) i) + 0))), (0, .ref (xa cx 136)), (1, .int (nI w))]) hx hb dX5_together_69 hl (k := 3) rfl (nI_add _ _) (by decide) rfl (fun ls hl => ?_)
              refine lv_goto (tgt := 4) hx hb dX5_together_72 (by decide) ?_
              exact ih (i + 1) _ _ _ (by omega) hW (by have e9 : sumTo (togF (AL S) w) (i + 1) = (sumTo (togF (AL S) w) i) + 0 := (by show sumTo (togF (AL S) w) i + togF (AL S) w i = _; unfold togF; first | (rw [if_pos (by omega)]; done) | (rw [if_neg (by omega), if_pos (by omega)]; done) | (rw [if_neg (by omega), if_neg (by omega), if_pos (by omega)]; done) | (rw [if_neg (by omega), if_neg (by omega), if_neg (by omega)]; done)); rw [e9]; exact lv_sub hl [2, 3, 1, 0] rfl)
            · skip
              refine lv_aload_n hx hb dX5_together_57 rfl (lv_at hl 0 rfl) ?_
              refine lv_iconst (v := nI 0) hx hb dX5_together_58 (by decide) ?_
              refine lv_iload_n hx hb dX5_together_59 rfl (lv_at hl 3 rfl) ?_
              refine cl_ip (cl_run (rest := [.int (nI (sumTo (togF (AL S) w) i))]) F hW e_X5_84 (m_givesOf hI l hN hV0 hk (by omega) (by omega) i (by omega)) ⟨Nat.le_of_ble_eq_true rfl, Nat.le_of_ble_eq_true rfl⟩ (by omega) g136 rfl rfl rfl hl (Nat.le_of_ble_eq_true rfl) dX5_together_60 ⟨Nat.zero_le _, Nat.zero_le _⟩) hW (fun H locs hW => ?_)
              refine lv_goto (tgt := 67) hx hb dX5_together_63 (by decide) ?_
              refine nv_add F dX5_together_67 ?_
              refine lv_istore_n (lv' := [(2, .int (nI ((sumTo (togF (AL S) w) i) + (lgi (AL S) i)))), (0, .ref (xa cx 136)), (1, .int (nI w)), (3, .int (nI i))]) hx hb dX5_together_68 rfl hl (by decide) rfl (fun ls hl => ?_)
              refine lv_iinc (v := ((nI (i + 1)))) (lv' := [(3, .int (nI (i + 1))), (2, .int (nI ((sumTo (togF (AL S) w) i) + (lgi (AL S) i)))), (0, .ref (xa cx 136)), (1, .int (nI w))]) hx hb dX5_together_69 hl (k := 3) rfl (nI_add _ _) (by decide) rfl (fun ls hl => ?_)
              refine lv_goto (tgt := 4) hx hb dX5_together_72 (by decide) ?_
              exact ih (i + 1) _ _ _ (by omega) hW (by have e9 : sumTo (togF (AL S) w) (i + 1) = (sumTo (togF (AL S) w) i) + (lgi (AL S) i) := (by show sumTo (togF (AL S) w) i + togF (AL S) w i = _; unfold togF; first | (rw [if_pos (by omega)]; done) | (rw [if_neg (by omega), if_pos (by omega)]; done) | (rw [if_neg (by omega), if_neg (by omega), if_pos (by omega)]; done) | (rw [if_neg (by omega), if_neg (by omega), if_neg (by omega)]; done)); rw [e9]; exact lv_sub hl [2, 3, 1, 0] rfl)
          · skip
            refine lv_aload_n hx hb dX5_together_35 rfl (lv_at hl 0 rfl) ?_
            refine lv_iconst (v := nI 0) hx hb dX5_together_36 (by decide) ?_
            refine lv_iload_n hx hb dX5_together_37 rfl (lv_at hl 3 rfl) ?_
            refine cl_ip (cl_run (rest := [.int (nI (sumTo (togF (AL S) w) i))]) F hW e_X5_99 (m_groundOf hI l hN hV0 hk (by omega) (by omega) i (by omega)) ⟨Nat.le_of_ble_eq_true rfl, Nat.le_of_ble_eq_true rfl⟩ (by omega) g136 rfl rfl rfl hl (Nat.le_of_ble_eq_true rfl) dX5_together_38 ⟨Nat.zero_le _, Nat.zero_le _⟩) hW (fun H locs hW => ?_)
            refine lv_goto (tgt := 67) hx hb dX5_together_41 (by decide) ?_
            refine nv_add F dX5_together_67 ?_
            refine lv_istore_n (lv' := [(2, .int (nI ((sumTo (togF (AL S) w) i) + (lgr (AL S) i)))), (0, .ref (xa cx 136)), (1, .int (nI w)), (3, .int (nI i))]) hx hb dX5_together_68 rfl hl (by decide) rfl (fun ls hl => ?_)
            refine lv_iinc (v := ((nI (i + 1)))) (lv' := [(3, .int (nI (i + 1))), (2, .int (nI ((sumTo (togF (AL S) w) i) + (lgr (AL S) i)))), (0, .ref (xa cx 136)), (1, .int (nI w))]) hx hb dX5_together_69 hl (k := 3) rfl (nI_add _ _) (by decide) rfl (fun ls hl => ?_)
            refine lv_goto (tgt := 4) hx hb dX5_together_72 (by decide) ?_
            exact ih (i + 1) _ _ _ (by omega) hW (by have e9 : sumTo (togF (AL S) w) (i + 1) = (sumTo (togF (AL S) w) i) + (lgr (AL S) i) := (by show sumTo (togF (AL S) w) i + togF (AL S) w i = _; unfold togF; first | (rw [if_pos (by omega)]; done) | (rw [if_neg (by omega), if_pos (by omega)]; done) | (rw [if_neg (by omega), if_neg (by omega), if_pos (by omega)]; done) | (rw [if_neg (by omega), if_neg (by omega), if_neg (by omega)]; done)); rw [e9]; exact lv_sub hl [2, 3, 1, 0] rfl)
        · skip
          refine lv_aload_n hx hb dX5_together_18 rfl (lv_at hl 0 rfl) ?_
          refine nv_get F hW (by omega) g136 rfl iX5 2 (by decide) tw_631 rfl dX5_together_19 ?_
          refine lv_bipush (v := nI 6) hx hb dX5_together_22 (by decide) ?_
          refine lv_iload_n hx hb dX5_together_24 rfl (lv_at hl 3 rfl) ?_
          refine nv_add F dX5_together_25 ?_
          refine nv_ialdN (x := ((nI (Ls (AL S) i)))) F hW (by omega) g138 (by omega) (by decide) (hv.1 i (by omega)).2.1 dX5_together_26 ?_
          refine lv_goto (tgt := 67) hx hb dX5_together_27 (by decide) ?_
          refine nv_add F dX5_together_67 ?_
          refine lv_istore_n (lv' := [(2, .int (nI ((sumTo (togF (AL S) w) i) + (Ls (AL S) i)))), (0, .ref (xa cx 136)), (1, .int (nI w)), (3, .int (nI i))]) hx hb dX5_together_68 rfl hl (by decide) rfl (fun ls hl => ?_)
          refine lv_iinc (v := ((nI (i + 1)))) (lv' := [(3, .int (nI (i + 1))), (2, .int (nI ((sumTo (togF (AL S) w) i) + (Ls (AL S) i)))), (0, .ref (xa cx 136)), (1, .int (nI w))]) hx hb dX5_together_69 hl (k := 3) rfl (nI_add _ _) (by decide) rfl (fun ls hl => ?_)
          refine lv_goto (tgt := 4) hx hb dX5_together_72 (by decide) ?_
          exact ih (i + 1) _ _ _ (by omega) hW (by have e9 : sumTo (togF (AL S) w) (i + 1) = (sumTo (togF (AL S) w) i) + (Ls (AL S) i) := (by show sumTo (togF (AL S) w) i + togF (AL S) w i = _; unfold togF; first | (rw [if_pos (by omega)]; done) | (rw [if_neg (by omega), if_pos (by omega)]; done) | (rw [if_neg (by omega), if_neg (by omega), if_pos (by omega)]; done) | (rw [if_neg (by omega), if_neg (by omega), if_neg (by omega)]; done)); rw [e9]; exact lv_sub hl [2, 3, 1, 0] rfl)
  exact LOOP (Ln (AL S)) 0 _ _ _ (by omega) hW (lv_sub hl [2, 3, 1, 0] rfl)

set_option maxHeartbeats 4000000 in
set_option maxRecDepth 100000 in
theorem x_count {cx : CX} (hI : xI cx) (l : Launch) {μ : ME} {S : AS} {B : Nat} {Tr : (Nat → Int32) → Prop} (hN : 149 ≤ xN cx) (hX : modX cx μ S Tr) (hA : aok S B) (hMo : mok S) (hB : B < 800000) (w : Int32) : MT cx l yX5_count cX5_count 2 (some .int) 4 92 [.ref (xa cx 136), .int w] μ (Ei cx (r_count S w) (fun μ1 => modX cx μ1 S (fun _ => True) ∧ off 136 13 μ μ1)) := by
  refine mt_of hI (by decide) (Nat.le_of_ble_eq_true rfl) ?_
  intro p e s m below meth c ls F hr hlk hW hl
  have hx := F.1.1
  have hb := F.1.2.1
  have hts := F.1.2.2.2.2
  obtain ⟨rh, nx, f1, fn, frd, ft, fo, fa, frw, fh, fu, fb, fz, fkp, g136, g137, g138, g139, g140, g141, g142, g143, g144, g145, g146, g147, g148, hg, hv, ht, hnx, hrw, hse, hkp, hTr⟩ := id hX
  have hk := hA.2.1
  have hn6 := hk.1
  have hk4 := hk.2.2.2.1
  have hU := lok_U hk
  have hV0 := modX_V0 hX
  have hl : lv_has ls 2 [(0, .ref (xa cx 136)), (1, .int w)] := hl
  refine lv_iload_n hx hb dX5_count_0 rfl (lv_at hl 1 rfl) ?_
  by_cases hin8 : inR w 9 = true
  · skip
    obtain ⟨q, hq, rfl⟩ := inR_of hin8 (by decide)
    rcases (show q = 0 ∨ q = 1 ∨ q = 2 ∨ q = 3 ∨ q = 4 ∨ q = 5 ∨ q = 6 ∨ q = 7 ∨ q = 8 by omega) with rfl | rfl | rfl | rfl | rfl | rfl | rfl | rfl | rfl
    · skip
      refine lv_tableIn (tgt := 52) hx hb dX5_count_1 (by decide) (by decide) rfl (by decide) ?_
      refine lv_aload_n hx hb dX5_count_52 rfl (lv_at hl 0 rfl) ?_
      refine nv_get F hW (by omega) g136 rfl iX5 6 (by decide) tw_635 rfl dX5_count_53 ?_
      exact rt_ie F hr hlk hW (by unfold r_count; rw [if_pos hin8, nI_clamp (by omega)]; rfl) ⟨(modX_tr hX (fun _ _ => trivial)), off_rf⟩ dX5_count_56
    · skip
      refine lv_tableIn (tgt := 57) hx hb dX5_count_1 (by decide) (by decide) rfl (by decide) ?_
      refine lv_aload_n hx hb dX5_count_57 rfl (lv_at hl 0 rfl) ?_
      refine nv_get F hW (by omega) g136 rfl iX5 0 (by decide) tw_629 rfl dX5_count_58 ?_
      exact rt_ie F hr hlk hW (by unfold r_count; rw [if_pos hin8, nI_clamp (by omega)]; rfl) ⟨(modX_tr hX (fun _ _ => trivial)), off_rf⟩ dX5_count_61
    · skip
      refine lv_tableIn (tgt := 62) hx hb dX5_count_1 (by decide) (by decide) rfl (by decide) ?_
      refine lv_aload_n hx hb dX5_count_62 rfl (lv_at hl 0 rfl) ?_
      refine lv_iconst (v := nI 0) hx hb dX5_count_63 (by decide) ?_
      refine cl_ip (cl_run (rest := []) F hW e_X5_140 (m_standingOn hI l hN hV0 hk (by omega) (by omega)) ⟨Nat.le_of_ble_eq_true rfl, Nat.le_of_ble_eq_true rfl⟩ (by omega) g136 rfl rfl rfl hl (Nat.le_of_ble_eq_true rfl) dX5_count_64 ⟨Nat.zero_le _, Nat.zero_le _⟩) hW (fun H locs hW => ?_)
      exact rt_ie F hr hlk hW (by unfold r_count; rw [if_pos hin8, nI_clamp (by omega)]; rfl) ⟨(modX_tr hX (fun _ _ => trivial)), off_rf⟩ dX5_count_67
    · skip
      refine lv_tableIn (tgt := 68) hx hb dX5_count_1 (by decide) (by decide) rfl (by decide) ?_
      refine lv_aload_n hx hb dX5_count_68 rfl (lv_at hl 0 rfl) ?_
      refine nv_get F hW (by omega) g136 rfl iX5 2 (by decide) tw_631 rfl dX5_count_69 ?_
      refine lv_bipush (v := nI 30) hx hb dX5_count_72 (by decide) ?_
      refine nv_ialdN (x := ((nI (Lh (AL S))))) F hW (by omega) g138 (by omega) (by decide) hv.2 dX5_count_74 ?_
      exact rt_ie F hr hlk hW (by unfold r_count; rw [if_pos hin8, nI_clamp (by omega)]; rfl) ⟨(modX_tr hX (fun _ _ => trivial)), off_rf⟩ dX5_count_75
    · skip
      refine lv_tableIn (tgt := 76) hx hb dX5_count_1 (by decide) (by decide) rfl (by decide) ?_
      refine lv_aload_n hx hb dX5_count_76 rfl (lv_at hl 0 rfl) ?_
      refine lv_iload_n hx hb dX5_count_77 rfl (lv_at hl 1 rfl) ?_
      refine cl_ip (cl_run (rest := []) F hW e_X5_209 (m_together hI l hN hX hA hMo hB 4 (by omega)) ⟨Nat.le_of_ble_eq_true rfl, Nat.le_of_ble_eq_true rfl⟩ (by omega) g136 rfl rfl rfl hl (Nat.le_of_ble_eq_true rfl) dX5_count_78 ⟨Nat.zero_le _, Nat.zero_le _⟩) hW (fun H locs hW => ?_)
      exact rt_ie F hr hlk hW (by unfold r_count; rw [if_pos hin8, nI_clamp (by omega)]; rfl) ⟨(modX_tr hX (fun _ _ => trivial)), off_rf⟩ dX5_count_81
    · skip
      refine lv_tableIn (tgt := 76) hx hb dX5_count_1 (by decide) (by decide) rfl (by decide) ?_
      refine lv_aload_n hx hb dX5_count_76 rfl (lv_at hl 0 rfl) ?_
      refine lv_iload_n hx hb dX5_count_77 rfl (lv_at hl 1 rfl) ?_
      refine cl_ip (cl_run (rest := []) F hW e_X5_209 (m_together hI l hN hX hA hMo hB 5 (by omega)) ⟨Nat.le_of_ble_eq_true rfl, Nat.le_of_ble_eq_true rfl⟩ (by omega) g136 rfl rfl rfl hl (Nat.le_of_ble_eq_true rfl) dX5_count_78 ⟨Nat.zero_le _, Nat.zero_le _⟩) hW (fun H locs hW => ?_)
      exact rt_ie F hr hlk hW (by unfold r_count; rw [if_pos hin8, nI_clamp (by omega)]; rfl) ⟨(modX_tr hX (fun _ _ => trivial)), off_rf⟩ dX5_count_81
    · skip
      refine lv_tableIn (tgt := 76) hx hb dX5_count_1 (by decide) (by decide) rfl (by decide) ?_
      refine lv_aload_n hx hb dX5_count_76 rfl (lv_at hl 0 rfl) ?_
      refine lv_iload_n hx hb dX5_count_77 rfl (lv_at hl 1 rfl) ?_
      refine cl_ip (cl_run (rest := []) F hW e_X5_209 (m_together hI l hN hX hA hMo hB 6 (by omega)) ⟨Nat.le_of_ble_eq_true rfl, Nat.le_of_ble_eq_true rfl⟩ (by omega) g136 rfl rfl rfl hl (Nat.le_of_ble_eq_true rfl) dX5_count_78 ⟨Nat.zero_le _, Nat.zero_le _⟩) hW (fun H locs hW => ?_)
      exact rt_ie F hr hlk hW (by unfold r_count; rw [if_pos hin8, nI_clamp (by omega)]; rfl) ⟨(modX_tr hX (fun _ _ => trivial)), off_rf⟩ dX5_count_81
    · skip
      refine lv_tableIn (tgt := 82) hx hb dX5_count_1 (by decide) (by decide) rfl (by decide) ?_
      refine lv_aload_n hx hb dX5_count_82 rfl (lv_at hl 0 rfl) ?_
      refine nv_get F hW (by omega) g136 rfl iX5 9 (by decide) tw_638 rfl dX5_count_83 ?_
      exact rt_ie F hr hlk hW (by unfold r_count; rw [if_pos hin8, nI_clamp (by omega)]; rfl) ⟨(modX_tr hX (fun _ _ => trivial)), off_rf⟩ dX5_count_86
    · skip
      refine lv_tableIn (tgt := 87) hx hb dX5_count_1 (by decide) (by decide) rfl (by decide) ?_
      refine lv_aload_n hx hb dX5_count_87 rfl (lv_at hl 0 rfl) ?_
      refine nv_get F hW (by omega) g136 rfl iX5 12 (by decide) tw_641 rfl dX5_count_88 ?_
      exact rt_ie F hr hlk hW (by unfold r_count; rw [if_pos hin8, nI_clamp (by omega)]; rfl) ⟨(modX_tr hX (fun _ _ => trivial)), off_rf⟩ dX5_count_91
  · skip
    have hout : w.toInt < 0 ∨ 8 < w.toInt := by
      rcases Int.lt_or_le w.toInt 0 with q | q
      · exact Or.inl q
      · exact Or.inr (Int.not_le.mp (fun z => hin8 (decide_eq_true ⟨q, by omega⟩)))
    refine lv_tableOut (tgt := 92) hx hb dX5_count_1 hout (by decide) ?_
    refine lv_bipush (v := (-2)) hx hb dX5_count_92 (by decide) ?_
    exact rt_ie F hr hlk hW (by unfold r_count; rw [if_neg hin8]) ⟨(modX_tr hX (fun _ _ => trivial)), off_rf⟩ dX5_count_94
