theorem kd1 {n i : Nat} (h : i < n) : nI (n - i) - nI 1 = nI (n - 1 - i) := by
  rw [pk_sub (by omega), show n - i - 1 = n - 1 - i by omega]
theorem kd2 {n i : Nat} (h : i < n) : nI (n - (i + 1)) - nI 1 = nI (n - 1 - i) + (-1) := by
  rw [show n - (i + 1) = n - 1 - i by omega, Int32.sub_eq_add_neg]
  rfl
theorem nI_aneg {a b : Nat} (h : b ≤ a) : nI a + - nI b = nI (a - b) := by
  rw [← Int32.sub_eq_add_neg, pk_sub h]
theorem mv_ok {L : LN} {n r q : Nat} (h : mvAll L n r n = true) (hq : q < n) : fig r (3 * n) (3 * q) < Ln L ∧ (fig r (3 * n) (3 * q + 1) = 0 ∨ fig r (3 * n) (3 * q + 1) = 1) := by
  have := (mvAll_iff L n r n).mp h q hq
  unfold mvOk at this
  rw [Bool.and_eq_true, Bool.and_eq_true, decide_eq_true_eq, decide_eq_true_eq] at this
  exact this.1
theorem shp_dMv {L : LN} {n r q : Nat} : shp (dMv L n r q) L := by
  unfold dMv
  split
  · exact shp_addS
  · exact shp_subS
theorem sfBw_1 {L LT : LN} {n r i : Nat} {w : Nat → Nat} (h : sfBw L n r w i = true) (e : LT = sfLw L n r w i) : sfBw L n r w (i + 1) = (cMv LT n r (w i) && decide (hF (dMv LT n r (w i)) = 0)) := by
  show (sfBw L n r w i && _) = _
  rw [h, e]
  rfl

set_option maxHeartbeats 4000000 in
set_option maxRecDepth 100000 in
theorem m_canMove {cx : CX} (hI : xI cx) (l : Launch) {μ : ME} {S : AS} {B : Nat} {Tr : (Nat → Int32) → Prop} (hN : 149 ≤ xN cx) (hX : modX cx μ S Tr) (hA : aok S B) (hMo : mok S) (hB : B < 800000) (n r c9 : Nat) (hn1 : 1 ≤ n) (hn4 : n ≤ 4) (hr3 : r < 10 ^ (3 * n)) (hc9 : c9 < 5000) (hO : ∀ i, i < n → c9 / 10 ^ (n - 1 - i) % 10 = wN n c9 i + 1 ∧ wN n c9 i < n) (hmv : mvAll (AL S) n r n = true) : MT cx l yX5_canMove cX5_canMove 12 (some .boolean) 5 118 [.ref (xa cx 136), .int (nI n), .long (lN r), .int (nI c9)] μ (Ei cx (b2 (sfBw (AL S) n r (wN n c9) n)) (fun μ1 => modX cx μ1 S (fun _ => True) ∧ off 136 13 μ μ1)) := by
  refine mt_of hI (by decide) (Nat.le_of_ble_eq_true rfl) ?_
  intro p e s m below meth c ls F hr hlk hW hl
  have hx := F.1.1
  have hb := F.1.2.1
  have hts := F.1.2.2.2.2
  obtain ⟨rh, nx, f1, fn, frd, ft, fo, fa, frw, fh, fu, fb, fz, fkp, g136, g137, g138, g139, g140, g141, g142, g143, g144, g145, g146, g147, g148, hg, hv, ht, hnx, hrw, hse, hkp, hTr⟩ := id hX
  have hk := hA.2.1
  have hn6 := hk.1
  have hk4 := hk.2.2.2.1
  have hU := lok_U hk
  have hV0 := modX_V0 hX
  have hl : lv_has ls 12 [(0, .ref (xa cx 136)), (1, .int (nI n)), (2, .long (lN r)), (4, .int (nI c9))] := hl
  refine lv_aload_n hx hb dX5_canMove_0 rfl (lv_at hl 0 rfl) ?_
  refine cl_v (cl_run (rest := []) F hW e_X5_134 (m_layTrial hI l hN hX hA hMo hB) ⟨Nat.le_of_ble_eq_true rfl, Nat.le_of_ble_eq_true rfl⟩ (by omega) g136 rfl rfl rfl hl (Nat.le_of_ble_eq_true rfl) dX5_canMove_1 ⟨Nat.zero_le _, Nat.zero_le _⟩) hW (fun μ1 H locs q_1 hW => ?_)
  obtain ⟨hX_1, ho_1⟩ := q_1
  obtain ⟨rh_1, nx_1, f1_1, fn_1, frd_1, ft_1, fo_1, fa_1, frw_1, fh_1, fu_1, fb_1, fz_1, fkp_1, g136_1, g137_1, g138_1, g139_1, g140_1, g141_1, g142_1, g143_1, g144_1, g145_1, g146_1, g147_1, g148_1, hg_1, hv_1, ht_1, hnx_1, hrw_1, hse_1, hkp_1, hTr_1⟩ := id hX_1
  have hs_1 : shp (AL S) (AL S) := shp_rf
  have hkT_1 := hk
  have hn_1 : Ln (AL S) = Ln (AL S) := hs_1.1
  have hV0_1 := modX_V0 hX_1
  have hV1_1 := modX_V1 hX_1 hs_1
  refine lv_iconst (v := nI 1) hx hb dX5_canMove_4 (by decide) ?_
  refine lv_istore (lv' := [(5, .int (nI 1)), (0, .ref (xa cx 136)), (1, .int (nI n)), (2, .long (lN r)), (4, .int (nI c9))]) hx hb dX5_canMove_5 hl (by decide) rfl (fun ls hl => ?_)
  refine lv_iload_n hx hb dX5_canMove_7 rfl (lv_at hl 2 rfl) ?_
  refine lv_iconst (v := nI 1) hx hb dX5_canMove_8 (by decide) ?_
  refine lv_isub hx hb dX5_canMove_9 ?_
  refine lv_istore (lv' := [(6, .int (((nI n)) - ((nI 1)))), (5, .int (nI 1)), (0, .ref (xa cx 136)), (1, .int (nI n)), (2, .long (lN r)), (4, .int (nI c9))]) hx hb dX5_canMove_10 hl (by decide) rfl (fun ls hl => ?_)
  have LOOP : ∀ (d i : Nat) (LTi : LN) (μLOOP : ME) (H : Heap) (locs : List Loc) (ls : Array Slot), i + d = n → (modX cx μLOOP S (fun fn => lv fn 31 LTi)) → (off 136 13 μ μLOOP) → (shp LTi (AL S)) → (lok LTi (B + 600 * i)) → (sfBw (AL S) n r (wN n c9) i = true → LTi = sfLw (AL S) n r (wN n c9) i) → St cx s μLOOP H locs → lv_has ls 12 [(0, .ref (xa cx 136)), (1, .int (nI n)), (2, .long (lN r)), (4, .int (nI c9)), (5, .int (b2 (sfBw (AL S) n r (wN n c9) i))), (6, .int (nI (n - i) - nI 1))] → W p l e { frames := 5, cells := 0, slots := 0, locals := 118 } s m [.ref (xa cx 136), .int (nI n), .long (lN r), .int (nI c9)].toArray below meth c H locs 0 0 (MQ below (Ei cx (b2 (sfBw (AL S) n r (wN n c9) n)) (fun μ1 => modX cx μ1 S (fun _ => True) ∧ off 136 13 μ μ1)) [.ref (xa cx 136), .int (nI n), .long (lN r), .int (nI c9)].toArray s 0 0 (xA cx)) (F0 m 12 ls []) := by
    intro d
    induction d with
    | zero =>
      intro i LTi μLOOP H locs ls hid hXiLOOP hoiLOOP hsi9 hki9 hLe hW hl
      obtain ⟨rh_i, nx_i, f1_i, fn_i, frd_i, ft_i, fo_i, fa_i, frw_i, fh_i, fu_i, fb_i, fz_i, fkp_i, g136_i, g137_i, g138_i, g139_i, g140_i, g141_i, g142_i, g143_i, g144_i, g145_i, g146_i, g147_i, g148_i, hg_i, hv_i, ht_i, hnx_i, hrw_i, hse_i, hkp_i, hTr_i⟩ := id hXiLOOP
      have hs_i : shp LTi (AL S) := hsi9
      have hkT_i := hki9
      have hn_i : Ln LTi = Ln (AL S) := hs_i.1
      have hV0_i := modX_V0 hXiLOOP
      have hV1_i := modX_V1 hXiLOOP hs_i
      refine lv_iload hx hb dX5_canMove_12 (lv_at hl 5 rfl) ?_
      refine lv_if_lt (tgt := 177) hx hb dX5_canMove_14 (by decide) (fun c_2 => ?_) (fun c_2 => ?_)
      · skip
        refine lv_iload hx hb dX5_canMove_177 (lv_at hl 4 rfl) ?_
        exact rt_ze F hr hlk hW (by rw [show i = n by omega]) ⟨(modX_tr hXiLOOP (fun _ _ => trivial)), (fun z hz => by rw [hoiLOOP z (by omega)])⟩ dX5_canMove_179
      · skip
        exact absurd (show nI (n - i) - nI 1 < 0 by rw [show n - i = 0 by omega]; decide) c_2
    | succ d ih =>
      intro i LTi μLOOP H locs ls hid hXiLOOP hoiLOOP hsi9 hki9 hLe hW hl
      obtain ⟨rh_i, nx_i, f1_i, fn_i, frd_i, ft_i, fo_i, fa_i, frw_i, fh_i, fu_i, fb_i, fz_i, fkp_i, g136_i, g137_i, g138_i, g139_i, g140_i, g141_i, g142_i, g143_i, g144_i, g145_i, g146_i, g147_i, g148_i, hg_i, hv_i, ht_i, hnx_i, hrw_i, hse_i, hkp_i, hTr_i⟩ := id hXiLOOP
      have hs_i : shp LTi (AL S) := hsi9
      have hkT_i := hki9
      have hn_i : Ln LTi = Ln (AL S) := hs_i.1
      have hV0_i := modX_V0 hXiLOOP
      have hV1_i := modX_V1 hXiLOOP hs_i
      rw [kd1 (show i < n by omega)] at hl
      refine lv_iload hx hb dX5_canMove_12 (lv_at hl 5 rfl) ?_
      refine nv_zlt (tgt := 177) F (by omega) dX5_canMove_14 (by decide) (fun c_3 => ?_) (fun c_3 => ?_)
      · skip
        exact absurd c_3 (by omega)
      · skip
        refine lv_iload hx hb dX5_canMove_17 (lv_at hl 4 rfl) ?_
        refine nv_beq (tgt := 177) F dX5_canMove_19 (by decide) (fun c_4 => ?_) (fun c_4 => ?_)
        · skip
          refine lv_iload hx hb dX5_canMove_177 (lv_at hl 4 rfl) ?_
          exact rt_ze F hr hlk hW (by rw [sfBw_f ‹sfBw (AL S) n r (wN n c9) i = false› (show i ≤ n by omega), ‹sfBw (AL S) n r (wN n c9) i = false›]) ⟨(modX_tr hXiLOOP (fun _ _ => trivial)), (fun z hz => by rw [hoiLOOP z (by omega)])⟩ dX5_canMove_179
        · skip
          have hcan := c_4
          have eLT := hLe hcan
          refine lv_iload hx hb dX5_canMove_22 (lv_at hl 3 rfl) ?_
          refine lv_i2l (v := lN c9) hx hb dX5_canMove_24 (nI_l (by omega)) ?_
          refine lv_iload hx hb dX5_canMove_25 (lv_at hl 5 rfl) ?_
          refine cl_lp (cl_runS (rest := [.long (lN c9)]) F hW e_X5_145 (m_tenTo hI l (n - 1 - i) (by omega)) ⟨Nat.le_of_ble_eq_true rfl, Nat.le_of_ble_eq_true rfl⟩ rfl rfl hl (Nat.le_of_ble_eq_true rfl) dX5_canMove_27 ⟨Nat.zero_le _, Nat.zero_le _⟩) hW (fun H locs hW => ?_)
          refine nw_ldiv F (by omega) (p10_pos _) (by have := p10_16 (show n - 1 - i ≤ 16 by omega); omega) dX5_canMove_30 ?_
          refine lv_ldc2 (v := lN 10) hx hb F.1.2.2.2.1 (hts _ tw_835) dX5_canMove_31 ?_
          refine nw_lrem F (Nat.lt_of_le_of_lt (Nat.div_le_self _ _) (by omega)) (by omega) (by omega) dX5_canMove_34 ?_
          refine nv_topl (y := ((lN (wN n c9 i + 1)))) (congrArg lN (hO i (by omega)).1) ?_
          refine lv_l2i (v := nI (wN n c9 i + 1)) hx hb dX5_canMove_35 (lN_i _) ?_
          refine lv_istore (lv' := [(7, .int (nI (wN n c9 i + 1))), (0, .ref (xa cx 136)), (1, .int (nI n)), (2, .long (lN r)), (4, .int (nI c9)), (5, .int (b2 (sfBw (AL S) n r (wN n c9) i))), (6, .int (nI (n - 1 - i)))]) hx hb dX5_canMove_36 hl (by decide) rfl (fun ls hl => ?_)
          refine lv_lload_n hx hb dX5_canMove_38 rfl (lv_at hl 3 rfl) ?_
          refine lv_iconst (v := nI 3) hx hb dX5_canMove_39 (by decide) ?_
          refine lv_iload_n hx hb dX5_canMove_40 rfl (lv_at hl 2 rfl) ?_
          refine lv_iload hx hb dX5_canMove_41 (lv_at hl 0 rfl) ?_
          refine nv_sub F (by have := (hO i (by omega)).2; omega) dX5_canMove_43 ?_
          refine nv_mul F dX5_canMove_44 ?_
          refine cl_lp (cl_runS (rest := [.long (lN r)]) F hW e_X5_145 (m_tenTo hI l (3 * (n - (wN n c9 i + 1))) (by omega)) ⟨Nat.le_of_ble_eq_true rfl, Nat.le_of_ble_eq_true rfl⟩ rfl rfl hl (Nat.le_of_ble_eq_true rfl) dX5_canMove_45 ⟨Nat.zero_le _, Nat.zero_le _⟩) hW (fun H locs hW => ?_)
          refine nw_ldiv F (by have := p10_16 (show 3 * n ≤ 16 by omega); omega) (p10_pos _) (by have := p10_16 (show 3 * (n - (wN n c9 i + 1)) ≤ 16 by omega); omega) dX5_canMove_48 ?_
          refine lv_ldc2 (v := lN 1000) hx hb F.1.2.2.2.1 (hts _ tw_840) dX5_canMove_49 ?_
          refine nw_lrem F (Nat.lt_of_le_of_lt (Nat.div_le_self _ _) (by have := p10_16 (show 3 * n ≤ 16 by omega); omega)) (by omega) (by omega) dX5_canMove_52 ?_
          refine nv_topl (y := ((lN (thr n r (wN n c9 i))))) rfl ?_
          refine lv_l2i (v := nI (thr n r (wN n c9 i))) hx hb dX5_canMove_53 (lN_i _) ?_
          refine lv_istore (lv' := [(8, .int (nI (thr n r (wN n c9 i)))), (7, .int (nI (wN n c9 i + 1))), (0, .ref (xa cx 136)), (1, .int (nI n)), (2, .long (lN r)), (4, .int (nI c9)), (5, .int (b2 (sfBw (AL S) n r (wN n c9) i))), (6, .int (nI (n - 1 - i)))]) hx hb dX5_canMove_54 hl (by decide) rfl (fun ls hl => ?_)
          refine lv_iload hx hb dX5_canMove_56 (lv_at hl 0 rfl) ?_
          refine lv_bipush (v := nI 100) hx hb dX5_canMove_58 (by decide) ?_
          refine nv_div F (by have := thr_lt n r (wN n c9 i); omega) (by omega) (by omega) dX5_canMove_60 ?_
          refine nv_top (y := ((nI (fig r (3 * n) (3 * wN n c9 i))))) (congrArg nI (thr_a (hO i (by omega)).2)) ?_
          refine lv_istore (lv' := [(9, .int (nI (fig r (3 * n) (3 * wN n c9 i)))), (8, .int (nI (thr n r (wN n c9 i)))), (7, .int (nI (wN n c9 i + 1))), (0, .ref (xa cx 136)), (1, .int (nI n)), (2, .long (lN r)), (4, .int (nI c9)), (5, .int (b2 (sfBw (AL S) n r (wN n c9) i))), (6, .int (nI (n - 1 - i)))]) hx hb dX5_canMove_61 hl (by decide) rfl (fun ls hl => ?_)
          refine lv_iload hx hb dX5_canMove_63 (lv_at hl 1 rfl) ?_
          refine lv_bipush (v := nI 10) hx hb dX5_canMove_65 (by decide) ?_
          refine nv_rem F (by have := thr_lt n r (wN n c9 i); omega) (by omega) (by omega) dX5_canMove_67 ?_
          refine nv_top (y := ((nI (fig r (3 * n) (3 * wN n c9 i + 2))))) (congrArg nI (thr_c (hO i (by omega)).2)) ?_
          refine lv_istore (lv' := [(10, .int (nI (fig r (3 * n) (3 * wN n c9 i + 2)))), (9, .int (nI (fig r (3 * n) (3 * wN n c9 i)))), (8, .int (nI (thr n r (wN n c9 i)))), (7, .int (nI (wN n c9 i + 1))), (0, .ref (xa cx 136)), (1, .int (nI n)), (2, .long (lN r)), (4, .int (nI c9)), (5, .int (b2 (sfBw (AL S) n r (wN n c9) i))), (6, .int (nI (n - 1 - i)))]) hx hb dX5_canMove_68 hl (by decide) rfl (fun ls hl => ?_)
          refine lv_iload hx hb dX5_canMove_70 (lv_at hl 2 rfl) ?_
          refine lv_bipush (v := nI 10) hx hb dX5_canMove_72 (by decide) ?_
          refine nv_div F (by have := thr_lt n r (wN n c9 i); omega) (by omega) (by omega) dX5_canMove_74 ?_
          refine lv_bipush (v := nI 10) hx hb dX5_canMove_75 (by decide) ?_
          refine nv_rem F (by have := thr_lt n r (wN n c9 i); omega) (by omega) (by omega) dX5_canMove_77 ?_
          refine nv_top (y := ((nI (fig r (3 * n) (3 * wN n c9 i + 1))))) (congrArg nI (thr_b (hO i (by omega)).2)) ?_
          have hmk := mv_ok hmv (hO i (by omega)).2
          refine nv_zne (tgt := 85) F (by have := fig_lt r (3 * n) (3 * wN n c9 i + 1); omega) dX5_canMove_78 (by decide) (fun c_5 => ?_) (fun c_5 => ?_)
          · skip
            refine lv_iconst (v := nI 0) hx hb dX5_canMove_85 (by decide) ?_
            refine lv_istore (lv' := [(11, .int (nI 0)), (10, .int (nI (fig r (3 * n) (3 * wN n c9 i + 2)))), (9, .int (nI (fig r (3 * n) (3 * wN n c9 i)))), (8, .int (nI (thr n r (wN n c9 i)))), (7, .int (nI (wN n c9 i + 1))), (0, .ref (xa cx 136)), (1, .int (nI n)), (2, .long (lN r)), (4, .int (nI c9)), (5, .int (b2 (sfBw (AL S) n r (wN n c9) i))), (6, .int (nI (n - 1 - i)))]) hx hb dX5_canMove_86 hl (by decide) rfl (fun ls hl => ?_)
            refine lv_iload hx hb dX5_canMove_88 (lv_at hl 0 rfl) ?_
            refine nv_zeq (tgt := 105) F (by decide) dX5_canMove_90 (by decide) (fun c_6 => ?_) (fun c_6 => ?_)
            · skip
              refine lv_aload_n hx hb dX5_canMove_105 rfl (lv_at hl 5 rfl) ?_
              refine lv_iconst (v := nI 1) hx hb dX5_canMove_106 (by decide) ?_
              refine lv_iload hx hb dX5_canMove_107 (lv_at hl 2 rfl) ?_
              refine lv_iload hx hb dX5_canMove_109 (lv_at hl 1 rfl) ?_
              refine cl_ip (cl_run (rest := []) F hW e_X5_123 (m_canTake hI l hN hV1_i hkT_i (by omega) (by omega) (fig r (3 * n) (3 * wN n c9 i)) (fig r (3 * n) (3 * wN n c9 i + 2)) (by have := fig_lt r (3 * n) (3 * wN n c9 i); omega) (by have := fig_lt r (3 * n) (3 * wN n c9 i + 2); omega)) ⟨Nat.le_of_ble_eq_true rfl, Nat.le_of_ble_eq_true rfl⟩ (by omega) g136_i rfl rfl rfl hl (Nat.le_of_ble_eq_true rfl) dX5_canMove_111 ⟨Nat.zero_le _, Nat.zero_le _⟩) hW (fun H locs hW => ?_)
              refine lv_istore (lv' := [(5, .int (b2 (canS LTi (fig r (3 * n) (3 * wN n c9 i)) (fig r (3 * n) (3 * wN n c9 i + 2))))), (11, .int (nI 0)), (10, .int (nI (fig r (3 * n) (3 * wN n c9 i + 2)))), (9, .int (nI (fig r (3 * n) (3 * wN n c9 i)))), (8, .int (nI (thr n r (wN n c9 i)))), (7, .int (nI (wN n c9 i + 1))), (0, .ref (xa cx 136)), (1, .int (nI n)), (2, .long (lN r)), (4, .int (nI c9)), (6, .int (nI (n - 1 - i)))]) hx hb dX5_canMove_114 hl (by decide) rfl (fun ls hl => ?_)
              refine lv_aload_n hx hb dX5_canMove_116 rfl (lv_at hl 6 rfl) ?_
              refine nv_get F hW (by omega) g136_i rfl iX5 2 (by decide) tw_631 rfl dX5_canMove_117 ?_
              refine lv_bipush (v := nI 37) hx hb dX5_canMove_120 (by decide) ?_
              refine lv_iload hx hb dX5_canMove_122 (lv_at hl 3 rfl) ?_
              refine nv_add F dX5_canMove_124 ?_
              refine lv_dup2_11 hx hb dX5_canMove_125 rfl rfl ?_
              refine nv_ialdN (x := ((nI (Ls LTi (fig r (3 * n) (3 * wN n c9 i)))))) F hW (by omega) g138_i (by omega) (by decide) (hTr_i.1 _ (by omega)).2.1 dX5_canMove_126 ?_
              refine lv_iload hx hb dX5_canMove_127 (lv_at hl 0 rfl) ?_
              refine nv_bne (tgt := 136) F dX5_canMove_129 (by decide) (fun c_7 => ?_) (fun c_7 => ?_)
              · skip
                refine lv_iload hx hb dX5_canMove_136 (lv_at hl 1 rfl) ?_
                refine nv_zeq (tgt := 146) F (by decide) dX5_canMove_138 (by decide) (fun c_8 => ?_) (fun c_8 => ?_)
                · skip
                  refine lv_iload hx hb dX5_canMove_146 (lv_at hl 2 rfl) ?_
                  refine lv_ineg hx hb dX5_canMove_148 ?_
                  refine lv_iadd hx hb dX5_canMove_149 ?_
                  refine nv_top (y := ((nI (Ls LTi (fig r (3 * n) (3 * wN n c9 i)) - fig r (3 * n) (3 * wN n c9 i + 2))))) (nI_aneg (of_decide_eq_true (show canS LTi _ _ = true by assumption)).2.2) ?_
                  refine nv_iastN F hW (by omega) g138_i (by omega) (by decide) dX5_canMove_150 (fun H locs hW => ?_)
                  obtain ⟨μ9, eμ9⟩ : ∃ zz9 : ME, zz9 = va_up μLOOP 138 (.inl (xT cx 0, 62, .inl (upd fn_i (37 + (fig r (3 * n) (3 * wN n c9 i))) ((nI (Ls LTi (fig r (3 * n) (3 * wN n c9 i)) - fig r (3 * n) (3 * wN n c9 i + 2))))))) := ⟨_, rfl⟩
                  have hW : St cx s μ9 H locs := by rw [eμ9]; exact hW
                  have h136_9 := (congrFun eμ9 136).trans ((va_up_ne _ _ (by omega)).trans g136_i)
                  have h137_9 := (congrFun eμ9 137).trans ((va_up_ne _ _ (by omega)).trans g137_i)
                  have h138_9 : μ9 138 = .inl (xT cx 0, 62, .inl (upd fn_i (37 + (fig r (3 * n) (3 * wN n c9 i))) ((nI (Ls LTi (fig r (3 * n) (3 * wN n c9 i)) - fig r (3 * n) (3 * wN n c9 i + 2)))))) := by rw [eμ9, va_up_self]
                  have h139_9 := (congrFun eμ9 139).trans ((va_up_ne _ _ (by omega)).trans g139_i)
                  have h140_9 := (congrFun eμ9 140).trans ((va_up_ne _ _ (by omega)).trans g140_i)
                  have h141_9 := (congrFun eμ9 141).trans ((va_up_ne _ _ (by omega)).trans g141_i)
                  have h142_9 := (congrFun eμ9 142).trans ((va_up_ne _ _ (by omega)).trans g142_i)
                  have h143_9 := (congrFun eμ9 143).trans ((va_up_ne _ _ (by omega)).trans g143_i)
                  have h144_9 := (congrFun eμ9 144).trans ((va_up_ne _ _ (by omega)).trans g144_i)
                  have h145_9 := (congrFun eμ9 145).trans ((va_up_ne _ _ (by omega)).trans g145_i)
                  have h146_9 := (congrFun eμ9 146).trans ((va_up_ne _ _ (by omega)).trans g146_i)
                  have h147_9 := (congrFun eμ9 147).trans ((va_up_ne _ _ (by omega)).trans g147_i)
                  have h148_9 := (congrFun eμ9 148).trans ((va_up_ne _ _ (by omega)).trans g148_i)
                  have ed : dMv LTi n r (wN n c9 i) = sets LTi (va_up (Ls LTi) (fig r (3 * n) (3 * wN n c9 i)) (Ls LTi (fig r (3 * n) (3 * wN n c9 i)) - fig r (3 * n) (3 * wN n c9 i + 2))) := by unfold dMv subS; rw [if_neg (by omega), if_pos (by assumption)]
                  have hX_t9 : modX cx μ9 S (fun fn => lv fn 31 (dMv LTi n r (wN n c9 i))) := modX_138 hXiLOOP hn6 g138_i eμ9 (fun z hz => upd_ne (by omega)) (by rw [ed]; exact lv_s (o := 31) hTr_i (by omega) (by omega))
                  obtain ⟨rh_t9, nx_t9, f1_t9, fn_t9, frd_t9, ft_t9, fo_t9, fa_t9, frw_t9, fh_t9, fu_t9, fb_t9, fz_t9, fkp_t9, g136_t9, g137_t9, g138_t9, g139_t9, g140_t9, g141_t9, g142_t9, g143_t9, g144_t9, g145_t9, g146_t9, g147_t9, g148_t9, hg_t9, hv_t9, ht_t9, hnx_t9, hrw_t9, hse_t9, hkp_t9, hTr_t9⟩ := id hX_t9
                  have hs_t9 : shp (dMv LTi n r (wN n c9 i)) (AL S) := shp_tr shp_dMv hs_i
                  have hkT_t9 := lok_dMv hkT_i n r (wN n c9 i)
                  have hn_t9 : Ln (dMv LTi n r (wN n c9 i)) = Ln (AL S) := hs_t9.1
                  have hV0_t9 := modX_V0 hX_t9
                  have hV1_t9 := modX_V1 hX_t9 hs_t9
                  refine lv_iload hx hb dX5_canMove_151 (lv_at hl 0 rfl) ?_
                  refine nv_beq (tgt := 168) F dX5_canMove_153 (by decide) (fun c_10 => ?_) (fun c_10 => ?_)
                  · skip
                    exact absurd ((show canS LTi (fig r (3 * n) (3 * wN n c9 i)) (fig r (3 * n) (3 * wN n c9 i + 2)) = true by assumption).symm.trans c_10) (by decide)
                  · skip
                    refine lv_aload_n hx hb dX5_canMove_156 rfl (lv_at hl 6 rfl) ?_
                    refine lv_iconst (v := nI 1) hx hb dX5_canMove_157 (by decide) ?_
                    refine cl_ie (cl_run (rest := []) F hW e_X5_137 (m_goOn1 hI l hN hX_t9 hA hMo hB hs_t9 hkT_t9 (by omega)) ⟨Nat.le_of_ble_eq_true rfl, Nat.le_of_ble_eq_true rfl⟩ (by omega) g136_t9 rfl rfl rfl hl (Nat.le_of_ble_eq_true rfl) dX5_canMove_158 ⟨Nat.zero_le _, Nat.zero_le _⟩) hW (fun μ11 H locs q_11 hW => ?_)
                    obtain ⟨hX_11, ho_11⟩ := q_11
                    have hX_11 : modX cx μ11 S (fun fn => lv fn 31 (hour (dMv LTi n r (wN n c9 i)))) := hX_11
                    obtain ⟨rh_11, nx_11, f1_11, fn_11, frd_11, ft_11, fo_11, fa_11, frw_11, fh_11, fu_11, fb_11, fz_11, fkp_11, g136_11, g137_11, g138_11, g139_11, g140_11, g141_11, g142_11, g143_11, g144_11, g145_11, g146_11, g147_11, g148_11, hg_11, hv_11, ht_11, hnx_11, hrw_11, hse_11, hkp_11, hTr_11⟩ := id hX_11
                    have hs_11 : shp (hour (dMv LTi n r (wN n c9 i))) (AL S) := shp_tr shp_hour hs_t9
                    have hkT_11 := lok_hour hkT_t9
                    have hn_11 : Ln (hour (dMv LTi n r (wN n c9 i))) = Ln (AL S) := hs_11.1
                    have hV0_11 := modX_V0 hX_11
                    have hV1_11 := modX_V1 hX_11 hs_11
                    refine nv_zne (tgt := 168) F (by have := hF_lt (L := dMv LTi n r (wN n c9 i)) (by rw [shp_dMv.1]; omega); omega) dX5_canMove_161 (by decide) (fun c_12 => ?_) (fun c_12 => ?_)
                    · skip
                      refine lv_iconst (v := nI 0) hx hb dX5_canMove_168 (by decide) ?_
                      refine lv_istore (lv' := [(5, .int (nI 0)), (11, .int (nI 0)), (10, .int (nI (fig r (3 * n) (3 * wN n c9 i + 2)))), (9, .int (nI (fig r (3 * n) (3 * wN n c9 i)))), (8, .int (nI (thr n r (wN n c9 i)))), (7, .int (nI (wN n c9 i + 1))), (0, .ref (xa cx 136)), (1, .int (nI n)), (2, .long (lN r)), (4, .int (nI c9)), (6, .int (nI (n - 1 - i)))]) hx hb dX5_canMove_169 hl (by decide) rfl (fun ls hl => ?_)
                      refine lv_iinc (v := (((nI (n - 1 - i)) + (-1)))) (lv' := [(6, .int ((nI (n - 1 - i)) + (-1))), (5, .int (nI 0)), (11, .int (nI 0)), (10, .int (nI (fig r (3 * n) (3 * wN n c9 i + 2)))), (9, .int (nI (fig r (3 * n) (3 * wN n c9 i)))), (8, .int (nI (thr n r (wN n c9 i)))), (7, .int (nI (wN n c9 i + 1))), (0, .ref (xa cx 136)), (1, .int (nI n)), (2, .long (lN r)), (4, .int (nI c9))]) hx hb dX5_canMove_171 hl (k := 10) rfl rfl (by decide) rfl (fun ls hl => ?_)
                      refine lv_goto (tgt := 12) hx hb dX5_canMove_174 (by decide) ?_
                      have ecm : cMv LTi n r (wN n c9 i) = true := by unfold cMv; rw [if_neg (by omega)]; assumption
                      have e9 : sfBw (AL S) n r (wN n c9) (i + 1) = false := by rw [sfBw_1 hcan eLT, ecm, decide_eq_false (by assumption)]; rfl
                      exact ih (i + 1) (hour (dMv LTi n r (wN n c9 i))) μ11 _ _ _ (by omega) hX_11 (fun z hz => by rw [ho_11 z (by omega)]; rw [eμ9, va_up_ne _ _ (by omega)]; rw [hoiLOOP z (by omega)]) (hs_11) (by first | exact lok_mono hkT_11 (by omega) | (rw [show B + 600 * (i + 1) = B + 600 * i + 600 by omega]; exact hkT_11)) (fun z9 => absurd (e9.symm.trans z9) (by decide)) hW (by rw [e9, kd2 (show i < n by omega)]; exact lv_sub hl [7, 8, 9, 10, 1, 0] rfl)
                    · skip
                      refine lv_iconst (v := nI 1) hx hb dX5_canMove_164 (by decide) ?_
                      refine lv_goto (tgt := 169) hx hb dX5_canMove_165 (by decide) ?_
                      refine lv_istore (lv' := [(5, .int (nI 1)), (11, .int (nI 0)), (10, .int (nI (fig r (3 * n) (3 * wN n c9 i + 2)))), (9, .int (nI (fig r (3 * n) (3 * wN n c9 i)))), (8, .int (nI (thr n r (wN n c9 i)))), (7, .int (nI (wN n c9 i + 1))), (0, .ref (xa cx 136)), (1, .int (nI n)), (2, .long (lN r)), (4, .int (nI c9)), (6, .int (nI (n - 1 - i)))]) hx hb dX5_canMove_169 hl (by decide) rfl (fun ls hl => ?_)
                      refine lv_iinc (v := (((nI (n - 1 - i)) + (-1)))) (lv' := [(6, .int ((nI (n - 1 - i)) + (-1))), (5, .int (nI 1)), (11, .int (nI 0)), (10, .int (nI (fig r (3 * n) (3 * wN n c9 i + 2)))), (9, .int (nI (fig r (3 * n) (3 * wN n c9 i)))), (8, .int (nI (thr n r (wN n c9 i)))), (7, .int (nI (wN n c9 i + 1))), (0, .ref (xa cx 136)), (1, .int (nI n)), (2, .long (lN r)), (4, .int (nI c9))]) hx hb dX5_canMove_171 hl (k := 10) rfl rfl (by decide) rfl (fun ls hl => ?_)
                      refine lv_goto (tgt := 12) hx hb dX5_canMove_174 (by decide) ?_
                      have ecm : cMv LTi n r (wN n c9 i) = true := by unfold cMv; rw [if_neg (by omega)]; assumption
                      have e9 : sfBw (AL S) n r (wN n c9) (i + 1) = true := by rw [sfBw_1 hcan eLT, ecm, decide_eq_true (by assumption)]; rfl
                      exact ih (i + 1) (hour (dMv LTi n r (wN n c9 i))) μ11 _ _ _ (by omega) hX_11 (fun z hz => by rw [ho_11 z (by omega)]; rw [eμ9, va_up_ne _ _ (by omega)]; rw [hoiLOOP z (by omega)]) (hs_11) (by first | exact lok_mono hkT_11 (by omega) | (rw [show B + 600 * (i + 1) = B + 600 * i + 600 by omega]; exact hkT_11)) (fun z9 => (by rw [eLT]; rfl)) hW (by rw [e9, kd2 (show i < n by omega)]; exact lv_sub hl [7, 8, 9, 10, 1, 0] rfl)
                · skip
                  exact absurd c_8 (by decide)
              · skip
                refine lv_iconst (v := nI 0) hx hb dX5_canMove_132 (by decide) ?_
                refine lv_goto (tgt := 149) hx hb dX5_canMove_133 (by decide) ?_
                refine nv_add F dX5_canMove_149 ?_
                refine nv_iastN F hW (by omega) g138_i (by omega) (by decide) dX5_canMove_150 (fun H locs hW => ?_)
                obtain ⟨μ13, eμ13⟩ : ∃ zz9 : ME, zz9 = va_up μLOOP 138 (.inl (xT cx 0, 62, .inl (upd fn_i (37 + (fig r (3 * n) (3 * wN n c9 i))) ((nI ((Ls LTi (fig r (3 * n) (3 * wN n c9 i))) + 0)))))) := ⟨_, rfl⟩
                have hW : St cx s μ13 H locs := by rw [eμ13]; exact hW
                have h136_13 := (congrFun eμ13 136).trans ((va_up_ne _ _ (by omega)).trans g136_i)
                have h137_13 := (congrFun eμ13 137).trans ((va_up_ne _ _ (by omega)).trans g137_i)
                have h138_13 : μ13 138 = .inl (xT cx 0, 62, .inl (upd fn_i (37 + (fig r (3 * n) (3 * wN n c9 i))) ((nI ((Ls LTi (fig r (3 * n) (3 * wN n c9 i))) + 0))))) := by rw [eμ13, va_up_self]
                have h139_13 := (congrFun eμ13 139).trans ((va_up_ne _ _ (by omega)).trans g139_i)
                have h140_13 := (congrFun eμ13 140).trans ((va_up_ne _ _ (by omega)).trans g140_i)
                have h141_13 := (congrFun eμ13 141).trans ((va_up_ne _ _ (by omega)).trans g141_i)
                have h142_13 := (congrFun eμ13 142).trans ((va_up_ne _ _ (by omega)).trans g142_i)
                have h143_13 := (congrFun eμ13 143).trans ((va_up_ne _ _ (by omega)).trans g143_i)
                have h144_13 := (congrFun eμ13 144).trans ((va_up_ne _ _ (by omega)).trans g144_i)
                have h145_13 := (congrFun eμ13 145).trans ((va_up_ne _ _ (by omega)).trans g145_i)
                have h146_13 := (congrFun eμ13 146).trans ((va_up_ne _ _ (by omega)).trans g146_i)
                have h147_13 := (congrFun eμ13 147).trans ((va_up_ne _ _ (by omega)).trans g147_i)
                have h148_13 := (congrFun eμ13 148).trans ((va_up_ne _ _ (by omega)).trans g148_i)
                have hX_t13 : modX cx μ13 S (fun fn => lv fn 31 LTi) := modX_138 hXiLOOP hn6 g138_i eμ13 (fun z hz => upd_ne (by omega)) (lv_same hTr_i (hTr_i.1 _ (by omega)).2.1)
                obtain ⟨rh_t13, nx_t13, f1_t13, fn_t13, frd_t13, ft_t13, fo_t13, fa_t13, frw_t13, fh_t13, fu_t13, fb_t13, fz_t13, fkp_t13, g136_t13, g137_t13, g138_t13, g139_t13, g140_t13, g141_t13, g142_t13, g143_t13, g144_t13, g145_t13, g146_t13, g147_t13, g148_t13, hg_t13, hv_t13, ht_t13, hnx_t13, hrw_t13, hse_t13, hkp_t13, hTr_t13⟩ := id hX_t13
                have hs_t13 : shp LTi (AL S) := hs_i
                have hkT_t13 := hkT_i
                have hn_t13 : Ln LTi = Ln (AL S) := hs_t13.1
                have hV0_t13 := modX_V0 hX_t13
                have hV1_t13 := modX_V1 hX_t13 hs_t13
                refine lv_iload hx hb dX5_canMove_151 (lv_at hl 0 rfl) ?_
                refine nv_beq (tgt := 168) F dX5_canMove_153 (by decide) (fun c_14 => ?_) (fun c_14 => ?_)
                · skip
                  refine lv_iconst (v := nI 0) hx hb dX5_canMove_168 (by decide) ?_
                  refine lv_istore (lv' := [(5, .int (nI 0)), (11, .int (nI 0)), (10, .int (nI (fig r (3 * n) (3 * wN n c9 i + 2)))), (9, .int (nI (fig r (3 * n) (3 * wN n c9 i)))), (8, .int (nI (thr n r (wN n c9 i)))), (7, .int (nI (wN n c9 i + 1))), (0, .ref (xa cx 136)), (1, .int (nI n)), (2, .long (lN r)), (4, .int (nI c9)), (6, .int (nI (n - 1 - i)))]) hx hb dX5_canMove_169 hl (by decide) rfl (fun ls hl => ?_)
                  refine lv_iinc (v := (((nI (n - 1 - i)) + (-1)))) (lv' := [(6, .int ((nI (n - 1 - i)) + (-1))), (5, .int (nI 0)), (11, .int (nI 0)), (10, .int (nI (fig r (3 * n) (3 * wN n c9 i + 2)))), (9, .int (nI (fig r (3 * n) (3 * wN n c9 i)))), (8, .int (nI (thr n r (wN n c9 i)))), (7, .int (nI (wN n c9 i + 1))), (0, .ref (xa cx 136)), (1, .int (nI n)), (2, .long (lN r)), (4, .int (nI c9))]) hx hb dX5_canMove_171 hl (k := 10) rfl rfl (by decide) rfl (fun ls hl => ?_)
                  refine lv_goto (tgt := 12) hx hb dX5_canMove_174 (by decide) ?_
                  have ecm : cMv LTi n r (wN n c9 i) = false := by unfold cMv; rw [if_neg (by omega)]; assumption
                  have e9 : sfBw (AL S) n r (wN n c9) (i + 1) = false := by rw [sfBw_1 hcan eLT, ecm]; rfl
                  exact ih (i + 1) (LTi) μ13 _ _ _ (by omega) hX_t13 (fun z hz => by rw [eμ13, va_up_ne _ _ (by omega)]; rw [hoiLOOP z (by omega)]) (hs_t13) (by first | exact lok_mono hkT_t13 (by omega) | (rw [show B + 600 * (i + 1) = B + 600 * i + 600 by omega]; exact hkT_t13)) (fun z9 => absurd (e9.symm.trans z9) (by decide)) hW (by rw [e9, kd2 (show i < n by omega)]; exact lv_sub hl [7, 8, 9, 10, 1, 0] rfl)
                · skip
                  exact absurd ((show canS LTi (fig r (3 * n) (3 * wN n c9 i)) (fig r (3 * n) (3 * wN n c9 i + 2)) = false by assumption).symm.trans c_14) (by decide)
            · skip
              exact absurd c_6 (by decide)
          · skip
            refine lv_iconst (v := nI 1) hx hb dX5_canMove_81 (by decide) ?_
            refine lv_goto (tgt := 86) hx hb dX5_canMove_82 (by decide) ?_
            refine lv_istore (lv' := [(11, .int (nI 1)), (10, .int (nI (fig r (3 * n) (3 * wN n c9 i + 2)))), (9, .int (nI (fig r (3 * n) (3 * wN n c9 i)))), (8, .int (nI (thr n r (wN n c9 i)))), (7, .int (nI (wN n c9 i + 1))), (0, .ref (xa cx 136)), (1, .int (nI n)), (2, .long (lN r)), (4, .int (nI c9)), (5, .int (b2 (sfBw (AL S) n r (wN n c9) i))), (6, .int (nI (n - 1 - i)))]) hx hb dX5_canMove_86 hl (by decide) rfl (fun ls hl => ?_)
            refine lv_iload hx hb dX5_canMove_88 (lv_at hl 0 rfl) ?_
            refine nv_zeq (tgt := 105) F (by decide) dX5_canMove_90 (by decide) (fun c_15 => ?_) (fun c_15 => ?_)
            · skip
              exact absurd c_15 (by decide)
            · skip
              refine lv_aload_n hx hb dX5_canMove_93 rfl (lv_at hl 5 rfl) ?_
              refine lv_iconst (v := nI 1) hx hb dX5_canMove_94 (by decide) ?_
              refine lv_iload hx hb dX5_canMove_95 (lv_at hl 2 rfl) ?_
              refine lv_iload hx hb dX5_canMove_97 (lv_at hl 1 rfl) ?_
              refine cl_ip (cl_run (rest := []) F hW e_X5_119 (m_canBring hI l hN hV1_i hkT_i (by omega) (by omega) (fig r (3 * n) (3 * wN n c9 i)) (fig r (3 * n) (3 * wN n c9 i + 2)) (by have := fig_lt r (3 * n) (3 * wN n c9 i); omega) (by have := fig_lt r (3 * n) (3 * wN n c9 i + 2); omega)) ⟨Nat.le_of_ble_eq_true rfl, Nat.le_of_ble_eq_true rfl⟩ (by omega) g136_i rfl rfl rfl hl (Nat.le_of_ble_eq_true rfl) dX5_canMove_99 ⟨Nat.zero_le _, Nat.zero_le _⟩) hW (fun H locs hW => ?_)
              refine lv_goto (tgt := 114) hx hb dX5_canMove_102 (by decide) ?_
              refine lv_istore (lv' := [(5, .int (b2 (canA LTi (fig r (3 * n) (3 * wN n c9 i)) (fig r (3 * n) (3 * wN n c9 i + 2))))), (11, .int (nI 1)), (10, .int (nI (fig r (3 * n) (3 * wN n c9 i + 2)))), (9, .int (nI (fig r (3 * n) (3 * wN n c9 i)))), (8, .int (nI (thr n r (wN n c9 i)))), (7, .int (nI (wN n c9 i + 1))), (0, .ref (xa cx 136)), (1, .int (nI n)), (2, .long (lN r)), (4, .int (nI c9)), (6, .int (nI (n - 1 - i)))]) hx hb dX5_canMove_114 hl (by decide) rfl (fun ls hl => ?_)
              refine lv_aload_n hx hb dX5_canMove_116 rfl (lv_at hl 6 rfl) ?_
              refine nv_get F hW (by omega) g136_i rfl iX5 2 (by decide) tw_631 rfl dX5_canMove_117 ?_
              refine lv_bipush (v := nI 37) hx hb dX5_canMove_120 (by decide) ?_
              refine lv_iload hx hb dX5_canMove_122 (lv_at hl 3 rfl) ?_
              refine nv_add F dX5_canMove_124 ?_
              refine lv_dup2_11 hx hb dX5_canMove_125 rfl rfl ?_
              refine nv_ialdN (x := ((nI (Ls LTi (fig r (3 * n) (3 * wN n c9 i)))))) F hW (by omega) g138_i (by omega) (by decide) (hTr_i.1 _ (by omega)).2.1 dX5_canMove_126 ?_
              refine lv_iload hx hb dX5_canMove_127 (lv_at hl 0 rfl) ?_
              refine nv_bne (tgt := 136) F dX5_canMove_129 (by decide) (fun c_16 => ?_) (fun c_16 => ?_)
              · skip
                refine lv_iload hx hb dX5_canMove_136 (lv_at hl 1 rfl) ?_
                refine nv_zeq (tgt := 146) F (by decide) dX5_canMove_138 (by decide) (fun c_17 => ?_) (fun c_17 => ?_)
                · skip
                  exact absurd c_17 (by decide)
                · skip
                  refine lv_iload hx hb dX5_canMove_141 (lv_at hl 2 rfl) ?_
                  refine lv_goto (tgt := 149) hx hb dX5_canMove_143 (by decide) ?_
                  refine nv_add F dX5_canMove_149 ?_
                  refine nv_iastN F hW (by omega) g138_i (by omega) (by decide) dX5_canMove_150 (fun H locs hW => ?_)
                  obtain ⟨μ18, eμ18⟩ : ∃ zz9 : ME, zz9 = va_up μLOOP 138 (.inl (xT cx 0, 62, .inl (upd fn_i (37 + (fig r (3 * n) (3 * wN n c9 i))) ((nI ((Ls LTi (fig r (3 * n) (3 * wN n c9 i))) + (fig r (3 * n) (3 * wN n c9 i + 2)))))))) := ⟨_, rfl⟩
                  have hW : St cx s μ18 H locs := by rw [eμ18]; exact hW
                  have h136_18 := (congrFun eμ18 136).trans ((va_up_ne _ _ (by omega)).trans g136_i)
                  have h137_18 := (congrFun eμ18 137).trans ((va_up_ne _ _ (by omega)).trans g137_i)
                  have h138_18 : μ18 138 = .inl (xT cx 0, 62, .inl (upd fn_i (37 + (fig r (3 * n) (3 * wN n c9 i))) ((nI ((Ls LTi (fig r (3 * n) (3 * wN n c9 i))) + (fig r (3 * n) (3 * wN n c9 i + 2))))))) := by rw [eμ18, va_up_self]
                  have h139_18 := (congrFun eμ18 139).trans ((va_up_ne _ _ (by omega)).trans g139_i)
                  have h140_18 := (congrFun eμ18 140).trans ((va_up_ne _ _ (by omega)).trans g140_i)
                  have h141_18 := (congrFun eμ18 141).trans ((va_up_ne _ _ (by omega)).trans g141_i)
                  have h142_18 := (congrFun eμ18 142).trans ((va_up_ne _ _ (by omega)).trans g142_i)
                  have h143_18 := (congrFun eμ18 143).trans ((va_up_ne _ _ (by omega)).trans g143_i)
                  have h144_18 := (congrFun eμ18 144).trans ((va_up_ne _ _ (by omega)).trans g144_i)
                  have h145_18 := (congrFun eμ18 145).trans ((va_up_ne _ _ (by omega)).trans g145_i)
                  have h146_18 := (congrFun eμ18 146).trans ((va_up_ne _ _ (by omega)).trans g146_i)
                  have h147_18 := (congrFun eμ18 147).trans ((va_up_ne _ _ (by omega)).trans g147_i)
                  have h148_18 := (congrFun eμ18 148).trans ((va_up_ne _ _ (by omega)).trans g148_i)
                  have ed : dMv LTi n r (wN n c9 i) = sets LTi (va_up (Ls LTi) (fig r (3 * n) (3 * wN n c9 i)) (Ls LTi (fig r (3 * n) (3 * wN n c9 i)) + fig r (3 * n) (3 * wN n c9 i + 2))) := by unfold dMv addS; rw [if_pos (by omega), if_pos (by assumption)]
                  have hX_t18 : modX cx μ18 S (fun fn => lv fn 31 (dMv LTi n r (wN n c9 i))) := modX_138 hXiLOOP hn6 g138_i eμ18 (fun z hz => upd_ne (by omega)) (by rw [ed]; exact lv_s (o := 31) hTr_i (by omega) (by omega))
                  obtain ⟨rh_t18, nx_t18, f1_t18, fn_t18, frd_t18, ft_t18, fo_t18, fa_t18, frw_t18, fh_t18, fu_t18, fb_t18, fz_t18, fkp_t18, g136_t18, g137_t18, g138_t18, g139_t18, g140_t18, g141_t18, g142_t18, g143_t18, g144_t18, g145_t18, g146_t18, g147_t18, g148_t18, hg_t18, hv_t18, ht_t18, hnx_t18, hrw_t18, hse_t18, hkp_t18, hTr_t18⟩ := id hX_t18
                  have hs_t18 : shp (dMv LTi n r (wN n c9 i)) (AL S) := shp_tr shp_dMv hs_i
                  have hkT_t18 := lok_dMv hkT_i n r (wN n c9 i)
                  have hn_t18 : Ln (dMv LTi n r (wN n c9 i)) = Ln (AL S) := hs_t18.1
                  have hV0_t18 := modX_V0 hX_t18
                  have hV1_t18 := modX_V1 hX_t18 hs_t18
                  refine lv_iload hx hb dX5_canMove_151 (lv_at hl 0 rfl) ?_
                  refine nv_beq (tgt := 168) F dX5_canMove_153 (by decide) (fun c_19 => ?_) (fun c_19 => ?_)
                  · skip
                    exact absurd ((show canA LTi (fig r (3 * n) (3 * wN n c9 i)) (fig r (3 * n) (3 * wN n c9 i + 2)) = true by assumption).symm.trans c_19) (by decide)
                  · skip
                    refine lv_aload_n hx hb dX5_canMove_156 rfl (lv_at hl 6 rfl) ?_
                    refine lv_iconst (v := nI 1) hx hb dX5_canMove_157 (by decide) ?_
                    refine cl_ie (cl_run (rest := []) F hW e_X5_137 (m_goOn1 hI l hN hX_t18 hA hMo hB hs_t18 hkT_t18 (by omega)) ⟨Nat.le_of_ble_eq_true rfl, Nat.le_of_ble_eq_true rfl⟩ (by omega) g136_t18 rfl rfl rfl hl (Nat.le_of_ble_eq_true rfl) dX5_canMove_158 ⟨Nat.zero_le _, Nat.zero_le _⟩) hW (fun μ20 H locs q_20 hW => ?_)
                    obtain ⟨hX_20, ho_20⟩ := q_20
                    have hX_20 : modX cx μ20 S (fun fn => lv fn 31 (hour (dMv LTi n r (wN n c9 i)))) := hX_20
                    obtain ⟨rh_20, nx_20, f1_20, fn_20, frd_20, ft_20, fo_20, fa_20, frw_20, fh_20, fu_20, fb_20, fz_20, fkp_20, g136_20, g137_20, g138_20, g139_20, g140_20, g141_20, g142_20, g143_20, g144_20, g145_20, g146_20, g147_20, g148_20, hg_20, hv_20, ht_20, hnx_20, hrw_20, hse_20, hkp_20, hTr_20⟩ := id hX_20
                    have hs_20 : shp (hour (dMv LTi n r (wN n c9 i))) (AL S) := shp_tr shp_hour hs_t18
                    have hkT_20 := lok_hour hkT_t18
                    have hn_20 : Ln (hour (dMv LTi n r (wN n c9 i))) = Ln (AL S) := hs_20.1
                    have hV0_20 := modX_V0 hX_20
                    have hV1_20 := modX_V1 hX_20 hs_20
                    refine nv_zne (tgt := 168) F (by have := hF_lt (L := dMv LTi n r (wN n c9 i)) (by rw [shp_dMv.1]; omega); omega) dX5_canMove_161 (by decide) (fun c_21 => ?_) (fun c_21 => ?_)
                    · skip
                      refine lv_iconst (v := nI 0) hx hb dX5_canMove_168 (by decide) ?_
                      refine lv_istore (lv' := [(5, .int (nI 0)), (11, .int (nI 1)), (10, .int (nI (fig r (3 * n) (3 * wN n c9 i + 2)))), (9, .int (nI (fig r (3 * n) (3 * wN n c9 i)))), (8, .int (nI (thr n r (wN n c9 i)))), (7, .int (nI (wN n c9 i + 1))), (0, .ref (xa cx 136)), (1, .int (nI n)), (2, .long (lN r)), (4, .int (nI c9)), (6, .int (nI (n - 1 - i)))]) hx hb dX5_canMove_169 hl (by decide) rfl (fun ls hl => ?_)
                      refine lv_iinc (v := (((nI (n - 1 - i)) + (-1)))) (lv' := [(6, .int ((nI (n - 1 - i)) + (-1))), (5, .int (nI 0)), (11, .int (nI 1)), (10, .int (nI (fig r (3 * n) (3 * wN n c9 i + 2)))), (9, .int (nI (fig r (3 * n) (3 * wN n c9 i)))), (8, .int (nI (thr n r (wN n c9 i)))), (7, .int (nI (wN n c9 i + 1))), (0, .ref (xa cx 136)), (1, .int (nI n)), (2, .long (lN r)), (4, .int (nI c9))]) hx hb dX5_canMove_171 hl (k := 10) rfl rfl (by decide) rfl (fun ls hl => ?_)
                      refine lv_goto (tgt := 12) hx hb dX5_canMove_174 (by decide) ?_
                      have ecm : cMv LTi n r (wN n c9 i) = true := by unfold cMv; rw [if_pos (by omega)]; assumption
                      have e9 : sfBw (AL S) n r (wN n c9) (i + 1) = false := by rw [sfBw_1 hcan eLT, ecm, decide_eq_false (by assumption)]; rfl
                      exact ih (i + 1) (hour (dMv LTi n r (wN n c9 i))) μ20 _ _ _ (by omega) hX_20 (fun z hz => by rw [ho_20 z (by omega)]; rw [eμ18, va_up_ne _ _ (by omega)]; rw [hoiLOOP z (by omega)]) (hs_20) (by first | exact lok_mono hkT_20 (by omega) | (rw [show B + 600 * (i + 1) = B + 600 * i + 600 by omega]; exact hkT_20)) (fun z9 => absurd (e9.symm.trans z9) (by decide)) hW (by rw [e9, kd2 (show i < n by omega)]; exact lv_sub hl [7, 8, 9, 10, 1, 0] rfl)
                    · skip
                      refine lv_iconst (v := nI 1) hx hb dX5_canMove_164 (by decide) ?_
                      refine lv_goto (tgt := 169) hx hb dX5_canMove_165 (by decide) ?_
                      refine lv_istore (lv' := [(5, .int (nI 1)), (11, .int (nI 1)), (10, .int (nI (fig r (3 * n) (3 * wN n c9 i + 2)))), (9, .int (nI (fig r (3 * n) (3 * wN n c9 i)))), (8, .int (nI (thr n r (wN n c9 i)))), (7, .int (nI (wN n c9 i + 1))), (0, .ref (xa cx 136)), (1, .int (nI n)), (2, .long (lN r)), (4, .int (nI c9)), (6, .int (nI (n - 1 - i)))]) hx hb dX5_canMove_169 hl (by decide) rfl (fun ls hl => ?_)
                      refine lv_iinc (v := (((nI (n - 1 - i)) + (-1)))) (lv' := [(6, .int ((nI (n - 1 - i)) + (-1))), (5, .int (nI 1)), (11, .int (nI 1)), (10, .int (nI (fig r (3 * n) (3 * wN n c9 i + 2)))), (9, .int (nI (fig r (3 * n) (3 * wN n c9 i)))), (8, .int (nI (thr n r (wN n c9 i)))), (7, .int (nI (wN n c9 i + 1))), (0, .ref (xa cx 136)), (1, .int (nI n)), (2, .long (lN r)), (4, .int (nI c9))]) hx hb dX5_canMove_171 hl (k := 10) rfl rfl (by decide) rfl (fun ls hl => ?_)
                      refine lv_goto (tgt := 12) hx hb dX5_canMove_174 (by decide) ?_
                      have ecm : cMv LTi n r (wN n c9 i) = true := by unfold cMv; rw [if_pos (by omega)]; assumption
                      have e9 : sfBw (AL S) n r (wN n c9) (i + 1) = true := by rw [sfBw_1 hcan eLT, ecm, decide_eq_true (by assumption)]; rfl
                      exact ih (i + 1) (hour (dMv LTi n r (wN n c9 i))) μ20 _ _ _ (by omega) hX_20 (fun z hz => by rw [ho_20 z (by omega)]; rw [eμ18, va_up_ne _ _ (by omega)]; rw [hoiLOOP z (by omega)]) (hs_20) (by first | exact lok_mono hkT_20 (by omega) | (rw [show B + 600 * (i + 1) = B + 600 * i + 600 by omega]; exact hkT_20)) (fun z9 => (by rw [eLT]; rfl)) hW (by rw [e9, kd2 (show i < n by omega)]; exact lv_sub hl [7, 8, 9, 10, 1, 0] rfl)
              · skip
                refine lv_iconst (v := nI 0) hx hb dX5_canMove_132 (by decide) ?_
                refine lv_goto (tgt := 149) hx hb dX5_canMove_133 (by decide) ?_
                refine nv_add F dX5_canMove_149 ?_
                refine nv_iastN F hW (by omega) g138_i (by omega) (by decide) dX5_canMove_150 (fun H locs hW => ?_)
                obtain ⟨μ22, eμ22⟩ : ∃ zz9 : ME, zz9 = va_up μLOOP 138 (.inl (xT cx 0, 62, .inl (upd fn_i (37 + (fig r (3 * n) (3 * wN n c9 i))) ((nI ((Ls LTi (fig r (3 * n) (3 * wN n c9 i))) + 0)))))) := ⟨_, rfl⟩
                have hW : St cx s μ22 H locs := by rw [eμ22]; exact hW
                have h136_22 := (congrFun eμ22 136).trans ((va_up_ne _ _ (by omega)).trans g136_i)
                have h137_22 := (congrFun eμ22 137).trans ((va_up_ne _ _ (by omega)).trans g137_i)
                have h138_22 : μ22 138 = .inl (xT cx 0, 62, .inl (upd fn_i (37 + (fig r (3 * n) (3 * wN n c9 i))) ((nI ((Ls LTi (fig r (3 * n) (3 * wN n c9 i))) + 0))))) := by rw [eμ22, va_up_self]
                have h139_22 := (congrFun eμ22 139).trans ((va_up_ne _ _ (by omega)).trans g139_i)
                have h140_22 := (congrFun eμ22 140).trans ((va_up_ne _ _ (by omega)).trans g140_i)
                have h141_22 := (congrFun eμ22 141).trans ((va_up_ne _ _ (by omega)).trans g141_i)
                have h142_22 := (congrFun eμ22 142).trans ((va_up_ne _ _ (by omega)).trans g142_i)
                have h143_22 := (congrFun eμ22 143).trans ((va_up_ne _ _ (by omega)).trans g143_i)
                have h144_22 := (congrFun eμ22 144).trans ((va_up_ne _ _ (by omega)).trans g144_i)
                have h145_22 := (congrFun eμ22 145).trans ((va_up_ne _ _ (by omega)).trans g145_i)
                have h146_22 := (congrFun eμ22 146).trans ((va_up_ne _ _ (by omega)).trans g146_i)
                have h147_22 := (congrFun eμ22 147).trans ((va_up_ne _ _ (by omega)).trans g147_i)
                have h148_22 := (congrFun eμ22 148).trans ((va_up_ne _ _ (by omega)).trans g148_i)
                have hX_t22 : modX cx μ22 S (fun fn => lv fn 31 LTi) := modX_138 hXiLOOP hn6 g138_i eμ22 (fun z hz => upd_ne (by omega)) (lv_same hTr_i (hTr_i.1 _ (by omega)).2.1)
                obtain ⟨rh_t22, nx_t22, f1_t22, fn_t22, frd_t22, ft_t22, fo_t22, fa_t22, frw_t22, fh_t22, fu_t22, fb_t22, fz_t22, fkp_t22, g136_t22, g137_t22, g138_t22, g139_t22, g140_t22, g141_t22, g142_t22, g143_t22, g144_t22, g145_t22, g146_t22, g147_t22, g148_t22, hg_t22, hv_t22, ht_t22, hnx_t22, hrw_t22, hse_t22, hkp_t22, hTr_t22⟩ := id hX_t22
                have hs_t22 : shp LTi (AL S) := hs_i
                have hkT_t22 := hkT_i
                have hn_t22 : Ln LTi = Ln (AL S) := hs_t22.1
                have hV0_t22 := modX_V0 hX_t22
                have hV1_t22 := modX_V1 hX_t22 hs_t22
                refine lv_iload hx hb dX5_canMove_151 (lv_at hl 0 rfl) ?_
                refine nv_beq (tgt := 168) F dX5_canMove_153 (by decide) (fun c_23 => ?_) (fun c_23 => ?_)
                · skip
                  refine lv_iconst (v := nI 0) hx hb dX5_canMove_168 (by decide) ?_
                  refine lv_istore (lv' := [(5, .int (nI 0)), (11, .int (nI 1)), (10, .int (nI (fig r (3 * n) (3 * wN n c9 i + 2)))), (9, .int (nI (fig r (3 * n) (3 * wN n c9 i)))), (8, .int (nI (thr n r (wN n c9 i)))), (7, .int (nI (wN n c9 i + 1))), (0, .ref (xa cx 136)), (1, .int (nI n)), (2, .long (lN r)), (4, .int (nI c9)), (6, .int (nI (n - 1 - i)))]) hx hb dX5_canMove_169 hl (by decide) rfl (fun ls hl => ?_)
                  refine lv_iinc (v := (((nI (n - 1 - i)) + (-1)))) (lv' := [(6, .int ((nI (n - 1 - i)) + (-1))), (5, .int (nI 0)), (11, .int (nI 1)), (10, .int (nI (fig r (3 * n) (3 * wN n c9 i + 2)))), (9, .int (nI (fig r (3 * n) (3 * wN n c9 i)))), (8, .int (nI (thr n r (wN n c9 i)))), (7, .int (nI (wN n c9 i + 1))), (0, .ref (xa cx 136)), (1, .int (nI n)), (2, .long (lN r)), (4, .int (nI c9))]) hx hb dX5_canMove_171 hl (k := 10) rfl rfl (by decide) rfl (fun ls hl => ?_)
                  refine lv_goto (tgt := 12) hx hb dX5_canMove_174 (by decide) ?_
                  have ecm : cMv LTi n r (wN n c9 i) = false := by unfold cMv; rw [if_pos (by omega)]; assumption
                  have e9 : sfBw (AL S) n r (wN n c9) (i + 1) = false := by rw [sfBw_1 hcan eLT, ecm]; rfl
                  exact ih (i + 1) (LTi) μ22 _ _ _ (by omega) hX_t22 (fun z hz => by rw [eμ22, va_up_ne _ _ (by omega)]; rw [hoiLOOP z (by omega)]) (hs_t22) (by first | exact lok_mono hkT_t22 (by omega) | (rw [show B + 600 * (i + 1) = B + 600 * i + 600 by omega]; exact hkT_t22)) (fun z9 => absurd (e9.symm.trans z9) (by decide)) hW (by rw [e9, kd2 (show i < n by omega)]; exact lv_sub hl [7, 8, 9, 10, 1, 0] rfl)
                · skip
                  exact absurd ((show canA LTi (fig r (3 * n) (3 * wN n c9 i)) (fig r (3 * n) (3 * wN n c9 i + 2)) = false by assumption).symm.trans c_23) (by decide)
  exact LOOP n 0 (AL S) μ1 _ _ _ (by omega) hX_1 (fun z hz => by rw [ho_1 z (by omega)]) shp_rf hk (fun _ => rfl) hW (by rw [Nat.sub_zero]; exact lv_sub hl [2, 3, 4, 5, 1, 0] rfl)

set_option maxHeartbeats 4000000 in
set_option maxRecDepth 100000 in
theorem x_orders {cx : CX} (hI : xI cx) (l : Launch) {μ : ME} {S : AS} {B : Nat} {Tr : (Nat → Int32) → Prop} (hN : 149 ≤ xN cx) (hX : modX cx μ S Tr) (hA : aok S B) (hMo : mok S) (hB : B < 800000) (n0 : Int32) (x : Int64) (w : Int32) : MT cx l yX5_orders cX5_orders 8 (some .int) 6 149 [.ref (xa cx 136), .int n0, .long (x), .int w] μ (Ei cx (r_orders S n0 x w) (fun μ1 => modX cx μ1 S (fun _ => True) ∧ off 136 13 μ μ1)) := by
  refine mt_of hI (by decide) (Nat.le_of_ble_eq_true rfl) ?_
  intro p e s m below meth c ls F hr hlk hW hl
  have hx := F.1.1
  have hb := F.1.2.1
  have hts := F.1.2.2.2.2
  obtain ⟨rh, nx, f1, fn, frd, ft, fo, fa, frw, fh, fu, fb, fz, fkp, g136, g137, g138, g139, g140, g141, g142, g143, g144, g145, g146, g147, g148, hg, hv, ht, hnx, hrw, hse, hkp, hTr⟩ := id hX
  have hk := hA.2.1
  have hn6 := hk.1
  have hk4 := hk.2.2.2.1
  have hU := lok_U hk
  have hV0 := modX_V0 hX
  have hl : lv_has ls 8 [(0, .ref (xa cx 136)), (1, .int n0), (2, .long (x)), (4, .int w)] := hl
  refine lv_iload_n hx hb dX5_orders_0 rfl (lv_at hl 1 rfl) ?_
  refine lv_i2l hx hb dX5_orders_1 rfl ?_
  refine lv_lconst (v := lN 1) hx hb dX5_orders_2 (by decide) ?_
  refine lv_ldc2 (v := lN 4) hx hb F.1.2.2.2.1 (hts _ tw_831) dX5_orders_3 ?_
  refine cl_ip (cl_runS (rest := []) F hW e_X5_49 (m_in hI l ((n0.toInt64)) ((lN 1)) ((lN 4))) ⟨Nat.le_of_ble_eq_true rfl, Nat.le_of_ble_eq_true rfl⟩ rfl rfl hl (Nat.le_of_ble_eq_true rfl) dX5_orders_6 ⟨Nat.zero_le _, Nat.zero_le _⟩) hW (fun H locs hW => ?_)
  refine nv_top (y := ((b2 (c14 n0)))) (congrArg b2 (inL_14 _)) ?_
  refine nv_beq (tgt := 48) F dX5_orders_9 (by decide) (fun c_1 => ?_) (fun c_1 => ?_)
  · skip
    refine lv_bipush (v := (-2)) hx hb dX5_orders_48 (by decide) ?_
    have hbad : (c14 n0 && halI w && movB (AL S) (n0 : Int32).toNatClampNeg x) = false := by
      rw [‹c14 n0 = false›]; rfl
    exact rt_ie F hr hlk hW (by unfold r_orders; rw [hbad]; rfl) ⟨(modX_tr hX (fun _ _ => trivial)), off_rf⟩ dX5_orders_50
  · skip
    obtain ⟨n, hn1, hn4, rfl⟩ := c14_of c_1
    refine lv_lload_n hx hb dX5_orders_12 rfl (lv_at hl 2 rfl) ?_
    refine lv_lconst (v := lN 0) hx hb dX5_orders_13 (by decide) ?_
    refine lv_iconst (v := nI 3) hx hb dX5_orders_14 (by decide) ?_
    refine lv_iload_n hx hb dX5_orders_15 rfl (lv_at hl 1 rfl) ?_
    refine nv_mul F dX5_orders_16 ?_
    refine cl_lp (cl_runS (rest := [.long (lN 0), .long (x)]) F hW e_X5_145 (m_tenTo hI l (3 * n) (by omega)) ⟨Nat.le_of_ble_eq_true rfl, Nat.le_of_ble_eq_true rfl⟩ rfl rfl hl (Nat.le_of_ble_eq_true rfl) dX5_orders_17 ⟨Nat.zero_le _, Nat.zero_le _⟩) hW (fun H locs hW => ?_)
    refine lv_lconst (v := lN 1) hx hb dX5_orders_20 (by decide) ?_
    refine nw_lsub F (p10_pos _) dX5_orders_21 ?_
    refine cl_ip (cl_runS (rest := []) F hW e_X5_49 (m_in hI l ((x)) ((lN 0)) ((lN ((10 ^ (3 * n)) - 1)))) ⟨Nat.le_of_ble_eq_true rfl, Nat.le_of_ble_eq_true rfl⟩ rfl rfl hl (Nat.le_of_ble_eq_true rfl) dX5_orders_22 ⟨Nat.zero_le _, Nat.zero_le _⟩) hW (fun H locs hW => ?_)
    refine nv_top (y := ((b2 (figs x (3 * n))))) (congrArg b2 (inL_figs (by omega))) ?_
    refine nv_beq (tgt := 48) F dX5_orders_25 (by decide) (fun c_2 => ?_) (fun c_2 => ?_)
    · skip
      refine lv_bipush (v := (-2)) hx hb dX5_orders_48 (by decide) ?_
      have hbad : (c14 (nI n) && halI w && movB (AL S) (nI n : Int32).toNatClampNeg x) = false := by
        rw [nI_clamp (by omega)]; unfold movB; rw [‹figs x (3 * n) = false›]; simp
      exact rt_ie F hr hlk hW (by unfold r_orders; rw [hbad]; rfl) ⟨(modX_tr hX (fun _ _ => trivial)), off_rf⟩ dX5_orders_50
    · skip
      have hfg : figs x (3 * n) = true := c_2
      obtain ⟨r, hr9, rfl⟩ := figs_get hfg
      have hr3 : r < 10 ^ (3 * n) := by rw [figs_lN hr9] at hfg; exact of_decide_eq_true hfg
      refine lv_aload_n hx hb dX5_orders_28 rfl (lv_at hl 0 rfl) ?_
      refine lv_iload_n hx hb dX5_orders_29 rfl (lv_at hl 1 rfl) ?_
      refine lv_lload_n hx hb dX5_orders_30 rfl (lv_at hl 2 rfl) ?_
      refine cl_ip (cl_run (rest := []) F hW e_X5_153 (m_areMoves hI l hN hX hA hMo hB n r hn1 hn4 hr3) ⟨Nat.le_of_ble_eq_true rfl, Nat.le_of_ble_eq_true rfl⟩ (by omega) g136 rfl rfl rfl hl (Nat.le_of_ble_eq_true rfl) dX5_orders_31 ⟨Nat.zero_le _, Nat.zero_le _⟩) hW (fun H locs hW => ?_)
      refine nv_beq (tgt := 48) F dX5_orders_34 (by decide) (fun c_3 => ?_) (fun c_3 => ?_)
      · skip
        refine lv_bipush (v := (-2)) hx hb dX5_orders_48 (by decide) ?_
        have hbad : (c14 (nI n) && halI w && movB (AL S) (nI n : Int32).toNatClampNeg (lN r)) = false := by
          rw [nI_clamp (by omega)]; unfold movB; rw [lN_tn hr9, ‹mvAll (AL S) n r n = false›]; simp
        exact rt_ie F hr hlk hW (by unfold r_orders; rw [hbad]; rfl) ⟨(modX_tr hX (fun _ _ => trivial)), off_rf⟩ dX5_orders_50
      · skip
        have hmv := c_3
        refine lv_iload hx hb dX5_orders_37 (lv_at hl 3 rfl) ?_
        refine lv_i2l hx hb dX5_orders_39 rfl ?_
        refine lv_lconst (v := lN 0) hx hb dX5_orders_40 (by decide) ?_
        refine lv_lconst (v := lN 1) hx hb dX5_orders_41 (by decide) ?_
        refine cl_ip (cl_runS (rest := []) F hW e_X5_49 (m_in hI l ((w.toInt64)) ((lN 0)) ((lN 1))) ⟨Nat.le_of_ble_eq_true rfl, Nat.le_of_ble_eq_true rfl⟩ rfl rfl hl (Nat.le_of_ble_eq_true rfl) dX5_orders_42 ⟨Nat.zero_le _, Nat.zero_le _⟩) hW (fun H locs hW => ?_)
        refine nv_top (y := ((b2 (halI w)))) (congrArg b2 (inL_half _)) ?_
        refine nv_bne (tgt := 51) F dX5_orders_45 (by decide) (fun c_4 => ?_) (fun c_4 => ?_)
        · skip
          have hwh := c_4
          refine lv_iconst (v := nI 0) hx hb dX5_orders_51 (by decide) ?_
          refine lv_istore (lv' := [(5, .int (nI 0)), (0, .ref (xa cx 136)), (1, .int (nI n)), (2, .long (lN r)), (4, .int w)]) hx hb dX5_orders_52 hl (by decide) rfl (fun ls hl => ?_)
          refine lv_bipush (v := (-9)) hx hb dX5_orders_54 (by decide) ?_
          refine lv_istore (lv' := [(6, .int ((-9))), (5, .int (nI 0)), (0, .ref (xa cx 136)), (1, .int (nI n)), (2, .long (lN r)), (4, .int w)]) hx hb dX5_orders_56 hl (by decide) rfl (fun ls hl => ?_)
          refine lv_iconst (v := nI 1) hx hb dX5_orders_58 (by decide) ?_
          refine lv_istore (lv' := [(7, .int (nI 1)), (6, .int ((-9))), (5, .int (nI 0)), (0, .ref (xa cx 136)), (1, .int (nI n)), (2, .long (lN r)), (4, .int w)]) hx hb dX5_orders_59 hl (by decide) rfl (fun ls hl => ?_)
          have LOOP : ∀ (d i : Nat)  (μLOOP : ME) (H : Heap) (locs : List Loc) (ls : Array Slot), i + d = 5000 → (modX cx μLOOP S (fun _ => True)) → (off 136 13 μ μLOOP) → St cx s μLOOP H locs → lv_has ls 8 [(0, .ref (xa cx 136)), (1, .int (nI n)), (2, .long (lN r)), (4, .int w), (5, .int (nI (((List.range i).foldl (st1 (moQ (AL S) n r) id) (0, -9)).1))), (6, .int (((List.range i).foldl (st1 (moQ (AL S) n r) id) (0, -9)).2)), (7, .int (nI i))] → W p l e { frames := 6, cells := 0, slots := 0, locals := 149 } s m [.ref (xa cx 136), .int (nI n), .long (lN r), .int w].toArray below meth c H locs 0 0 (MQ below (Ei cx (r_orders S (nI n) (lN r) w) (fun μ1 => modX cx μ1 S (fun _ => True) ∧ off 136 13 μ μ1)) [.ref (xa cx 136), .int (nI n), .long (lN r), .int w].toArray s 0 0 (xA cx)) (F0 m 61 ls []) := by
            intro d
            induction d with
            | zero =>
              intro i  μLOOP H locs ls hid hXiLOOP hoiLOOP hW hl
              obtain ⟨rh_i, nx_i, f1_i, fn_i, frd_i, ft_i, fo_i, fa_i, frw_i, fh_i, fu_i, fb_i, fz_i, fkp_i, g136_i, g137_i, g138_i, g139_i, g140_i, g141_i, g142_i, g143_i, g144_i, g145_i, g146_i, g147_i, g148_i, hg_i, hv_i, ht_i, hnx_i, hrw_i, hse_i, hkp_i, hTr_i⟩ := id hXiLOOP
              have hV0_i := modX_V0 hXiLOOP
              refine lv_iload hx hb dX5_orders_61 (lv_at hl 6 rfl) ?_
              refine lv_sipush (v := nI 5000) hx hb dX5_orders_63 (by decide) ?_
              refine nv_cge (tgt := 112) F (by omega) (by omega) dX5_orders_66 (by decide) (fun c_5 => ?_) (fun c_5 => ?_)
              · skip
                refine lv_iload hx hb dX5_orders_112 (lv_at hl 3 rfl) ?_
                refine lv_if_ne (tgt := 122) hx hb dX5_orders_114 (by decide) (fun c_6 => ?_) (fun c_6 => ?_)
                · skip
                  refine lv_iload hx hb dX5_orders_122 (lv_at hl 5 rfl) ?_
                  have ei : i = 5000 := by omega
                  subst ei
                  have hgood : (c14 (nI n) && halI w && movB (AL S) (nI n).toNatClampNeg (lN r)) = true := by rw [nI_clamp (by omega), c14_nI hn1 hn4, hwh]; unfold movB; rw [hfg, lN_tn hr9, hmv]; rfl
                  exact rt_ie F hr hlk hW (by unfold r_orders; rw [hgood, if_pos rfl, nI_clamp (by omega), lN_tn hr9]; first | (rw [if_pos (by assumption), orders_eq (AL S) n r hn1 hn4]; done) | (rw [if_neg (by assumption), orders_eq (AL S) n r hn1 hn4]; done)) ⟨(modX_tr hXiLOOP (fun _ _ => trivial)), (fun z hz => by rw [hoiLOOP z (by omega)])⟩ dX5_orders_124
                · skip
                  refine lv_iload hx hb dX5_orders_117 (lv_at hl 4 rfl) ?_
                  refine lv_goto (tgt := 124) hx hb dX5_orders_119 (by decide) ?_
                  have ei : i = 5000 := by omega
                  subst ei
                  have hgood : (c14 (nI n) && halI w && movB (AL S) (nI n).toNatClampNeg (lN r)) = true := by rw [nI_clamp (by omega), c14_nI hn1 hn4, hwh]; unfold movB; rw [hfg, lN_tn hr9, hmv]; rfl
                  exact rt_ie F hr hlk hW (by unfold r_orders; rw [hgood, if_pos rfl, nI_clamp (by omega), lN_tn hr9]; first | (rw [if_pos (by assumption), orders_eq (AL S) n r hn1 hn4]; done) | (rw [if_neg (by assumption), orders_eq (AL S) n r hn1 hn4]; done)) ⟨(modX_tr hXiLOOP (fun _ _ => trivial)), (fun z hz => by rw [hoiLOOP z (by omega)])⟩ dX5_orders_124
              · skip
                exact absurd c_5 (by omega)
            | succ d ih =>
              intro i  μLOOP H locs ls hid hXiLOOP hoiLOOP hW hl
              obtain ⟨rh_i, nx_i, f1_i, fn_i, frd_i, ft_i, fo_i, fa_i, frw_i, fh_i, fu_i, fb_i, fz_i, fkp_i, g136_i, g137_i, g138_i, g139_i, g140_i, g141_i, g142_i, g143_i, g144_i, g145_i, g146_i, g147_i, g148_i, hg_i, hv_i, ht_i, hnx_i, hrw_i, hse_i, hkp_i, hTr_i⟩ := id hXiLOOP
              have hV0_i := modX_V0 hXiLOOP
              refine lv_iload hx hb dX5_orders_61 (lv_at hl 6 rfl) ?_
              refine lv_sipush (v := nI 5000) hx hb dX5_orders_63 (by decide) ?_
              refine nv_cge (tgt := 112) F (by omega) (by omega) dX5_orders_66 (by decide) (fun c_7 => ?_) (fun c_7 => ?_)
              · skip
                exact absurd c_7 (by omega)
              · skip
                refine lv_iload_n hx hb dX5_orders_69 rfl (lv_at hl 1 rfl) ?_
                refine lv_iload hx hb dX5_orders_70 (lv_at hl 6 rfl) ?_
                refine cl_ip (cl_runS (rest := []) F hW e_X5_157 (m_isOrder hI l n i hn4 (by omega)) ⟨Nat.le_of_ble_eq_true rfl, Nat.le_of_ble_eq_true rfl⟩ rfl rfl hl (Nat.le_of_ble_eq_true rfl) dX5_orders_72 ⟨Nat.zero_le _, Nat.zero_le _⟩) hW (fun H locs hW => ?_)
                refine nv_beq (tgt := 106) F dX5_orders_75 (by decide) (fun c_8 => ?_) (fun c_8 => ?_)
                · skip
                  refine lv_iinc (v := ((nI (i + 1)))) (lv' := [(7, .int (nI (i + 1))), (0, .ref (xa cx 136)), (1, .int (nI n)), (2, .long (lN r)), (4, .int w), (5, .int (nI (((List.range i).foldl (st1 (moQ (AL S) n r) id) (0, -9)).1))), (6, .int (((List.range i).foldl (st1 (moQ (AL S) n r) id) (0, -9)).2))]) hx hb dX5_orders_106 hl (k := 6) rfl (nI_add _ _) (by decide) rfl (fun ls hl => ?_)
                  refine lv_goto (tgt := 61) hx hb dX5_orders_109 (by decide) ?_
                  have eq9 : moQ (AL S) n r i = false := by unfold moQ; first | (rw [‹isO n i = false›]; rfl) | (rw [‹sfBw (AL S) n r (wN n i) n = false›, Bool.and_false])
                  have e9 : (List.range (i + 1)).foldl (st1 (moQ (AL S) n r) id) (0, -9) = (List.range i).foldl (st1 (moQ (AL S) n r) id) (0, -9) := by
                    rw [List.range_succ, List.foldl_append, List.foldl_cons, List.foldl_nil]
                    show (if moQ (AL S) n r i = true then _ else _) = _
                    rw [if_neg (by rw [eq9]; decide)]
                  exact ih (i + 1) μLOOP _ _ _ (by omega) (modX_tr hXiLOOP (fun _ _ => trivial)) (fun z hz => by rw [hoiLOOP z (by omega)]) hW (by rw [e9]; exact lv_sub hl [1, 2, 3, 4, 5, 6, 0] rfl)
                · skip
                  refine lv_aload_n hx hb dX5_orders_78 rfl (lv_at hl 0 rfl) ?_
                  refine lv_iload_n hx hb dX5_orders_79 rfl (lv_at hl 1 rfl) ?_
                  refine lv_lload_n hx hb dX5_orders_80 rfl (lv_at hl 2 rfl) ?_
                  refine lv_iload hx hb dX5_orders_81 (lv_at hl 6 rfl) ?_
                  refine cl_ie (cl_run (rest := []) F hW e_X5_160 (m_canMove hI l hN hXiLOOP hA hMo hB n r i hn1 hn4 hr3 (by omega) (isO_w n hn4 hn1 i (by omega) (by assumption)) hmv) ⟨Nat.le_of_ble_eq_true rfl, Nat.le_of_ble_eq_true rfl⟩ (by omega) g136_i rfl rfl rfl hl (Nat.le_of_ble_eq_true rfl) dX5_orders_83 ⟨Nat.zero_le _, Nat.zero_le _⟩) hW (fun μ9 H locs q_9 hW => ?_)
                  obtain ⟨hX_9, ho_9⟩ := q_9
                  obtain ⟨rh_9, nx_9, f1_9, fn_9, frd_9, ft_9, fo_9, fa_9, frw_9, fh_9, fu_9, fb_9, fz_9, fkp_9, g136_9, g137_9, g138_9, g139_9, g140_9, g141_9, g142_9, g143_9, g144_9, g145_9, g146_9, g147_9, g148_9, hg_9, hv_9, ht_9, hnx_9, hrw_9, hse_9, hkp_9, hTr_9⟩ := id hX_9
                  have hV0_9 := modX_V0 hX_9
                  refine nv_beq (tgt := 106) F dX5_orders_86 (by decide) (fun c_10 => ?_) (fun c_10 => ?_)
                  · skip
                    refine lv_iinc (v := ((nI (i + 1)))) (lv' := [(7, .int (nI (i + 1))), (0, .ref (xa cx 136)), (1, .int (nI n)), (2, .long (lN r)), (4, .int w), (5, .int (nI (((List.range i).foldl (st1 (moQ (AL S) n r) id) (0, -9)).1))), (6, .int (((List.range i).foldl (st1 (moQ (AL S) n r) id) (0, -9)).2))]) hx hb dX5_orders_106 hl (k := 6) rfl (nI_add _ _) (by decide) rfl (fun ls hl => ?_)
                    refine lv_goto (tgt := 61) hx hb dX5_orders_109 (by decide) ?_
                    have eq9 : moQ (AL S) n r i = false := by unfold moQ; first | (rw [‹isO n i = false›]; rfl) | (rw [‹sfBw (AL S) n r (wN n i) n = false›, Bool.and_false])
                    have e9 : (List.range (i + 1)).foldl (st1 (moQ (AL S) n r) id) (0, -9) = (List.range i).foldl (st1 (moQ (AL S) n r) id) (0, -9) := by
                      rw [List.range_succ, List.foldl_append, List.foldl_cons, List.foldl_nil]
                      show (if moQ (AL S) n r i = true then _ else _) = _
                      rw [if_neg (by rw [eq9]; decide)]
                    exact ih (i + 1) μ9 _ _ _ (by omega) (modX_tr hX_9 (fun _ _ => trivial)) (fun z hz => by rw [ho_9 z (by omega)]; rw [hoiLOOP z (by omega)]) hW (by rw [e9]; exact lv_sub hl [1, 2, 3, 4, 5, 6, 0] rfl)
                  · skip
                    refine lv_iload hx hb dX5_orders_89 (lv_at hl 4 rfl) ?_
                    refine nv_zne (tgt := 99) F (by have := mo_pos (AL S) n r i; omega) dX5_orders_91 (by decide) (fun c_11 => ?_) (fun c_11 => ?_)
                    · skip
                      refine lv_iload hx hb dX5_orders_99 (lv_at hl 5 rfl) ?_
                      refine lv_istore (lv' := [(6, .int (((List.range i).foldl (st1 (moQ (AL S) n r) id) (0, -9)).2)), (0, .ref (xa cx 136)), (1, .int (nI n)), (2, .long (lN r)), (4, .int w), (5, .int (nI (((List.range i).foldl (st1 (moQ (AL S) n r) id) (0, -9)).1))), (7, .int (nI i))]) hx hb dX5_orders_101 hl (by decide) rfl (fun ls hl => ?_)
                      refine lv_iinc (v := ((nI (((List.range i).foldl (st1 (moQ (AL S) n r) id) (0, -9)).1 + 1)))) (lv' := [(5, .int (nI (((List.range i).foldl (st1 (moQ (AL S) n r) id) (0, -9)).1 + 1))), (6, .int (((List.range i).foldl (st1 (moQ (AL S) n r) id) (0, -9)).2)), (0, .ref (xa cx 136)), (1, .int (nI n)), (2, .long (lN r)), (4, .int w), (7, .int (nI i))]) hx hb dX5_orders_103 hl (k := 5) rfl (nI_add _ _) (by decide) rfl (fun ls hl => ?_)
                      refine lv_iinc (v := ((nI (i + 1)))) (lv' := [(7, .int (nI (i + 1))), (5, .int (nI (((List.range i).foldl (st1 (moQ (AL S) n r) id) (0, -9)).1 + 1))), (6, .int (((List.range i).foldl (st1 (moQ (AL S) n r) id) (0, -9)).2)), (0, .ref (xa cx 136)), (1, .int (nI n)), (2, .long (lN r)), (4, .int w)]) hx hb dX5_orders_106 hl (k := 6) rfl (nI_add _ _) (by decide) rfl (fun ls hl => ?_)
                      refine lv_goto (tgt := 61) hx hb dX5_orders_109 (by decide) ?_
                      have eq9 : moQ (AL S) n r i = true := by unfold moQ; rw [‹isO n i = true›, ‹sfBw (AL S) n r (wN n i) n = true›]; rfl
                      have e9 : (List.range (i + 1)).foldl (st1 (moQ (AL S) n r) id) (0, -9) = (((List.range i).foldl (st1 (moQ (AL S) n r) id) (0, -9)).1 + 1, (((List.range i).foldl (st1 (moQ (AL S) n r) id) (0, -9)).2)) := by
                        rw [List.range_succ, List.foldl_append, List.foldl_cons, List.foldl_nil]
                        show (if moQ (AL S) n r i = true then (_ + 1, if _ = 0 then nI i else _) else _) = _
                        rw [if_pos eq9]
                        first | (rw [if_pos (by assumption)]; done) | (rw [if_neg (by assumption)]; done)
                      exact ih (i + 1) μ9 _ _ _ (by omega) (modX_tr hX_9 (fun _ _ => trivial)) (fun z hz => by rw [ho_9 z (by omega)]; rw [hoiLOOP z (by omega)]) hW (by rw [e9]; exact lv_sub hl [3, 4, 5, 6, 1, 2, 0] rfl)
                    · skip
                      refine lv_iload hx hb dX5_orders_94 (lv_at hl 6 rfl) ?_
                      refine lv_goto (tgt := 101) hx hb dX5_orders_96 (by decide) ?_
                      refine lv_istore (lv' := [(6, .int (nI i)), (0, .ref (xa cx 136)), (1, .int (nI n)), (2, .long (lN r)), (4, .int w), (5, .int (nI (((List.range i).foldl (st1 (moQ (AL S) n r) id) (0, -9)).1))), (7, .int (nI i))]) hx hb dX5_orders_101 hl (by decide) rfl (fun ls hl => ?_)
                      refine lv_iinc (v := ((nI (((List.range i).foldl (st1 (moQ (AL S) n r) id) (0, -9)).1 + 1)))) (lv' := [(5, .int (nI (((List.range i).foldl (st1 (moQ (AL S) n r) id) (0, -9)).1 + 1))), (6, .int (nI i)), (0, .ref (xa cx 136)), (1, .int (nI n)), (2, .long (lN r)), (4, .int w), (7, .int (nI i))]) hx hb dX5_orders_103 hl (k := 5) rfl (nI_add _ _) (by decide) rfl (fun ls hl => ?_)
                      refine lv_iinc (v := ((nI (i + 1)))) (lv' := [(7, .int (nI (i + 1))), (5, .int (nI (((List.range i).foldl (st1 (moQ (AL S) n r) id) (0, -9)).1 + 1))), (6, .int (nI i)), (0, .ref (xa cx 136)), (1, .int (nI n)), (2, .long (lN r)), (4, .int w)]) hx hb dX5_orders_106 hl (k := 6) rfl (nI_add _ _) (by decide) rfl (fun ls hl => ?_)
                      refine lv_goto (tgt := 61) hx hb dX5_orders_109 (by decide) ?_
                      have eq9 : moQ (AL S) n r i = true := by unfold moQ; rw [‹isO n i = true›, ‹sfBw (AL S) n r (wN n i) n = true›]; rfl
                      have e9 : (List.range (i + 1)).foldl (st1 (moQ (AL S) n r) id) (0, -9) = (((List.range i).foldl (st1 (moQ (AL S) n r) id) (0, -9)).1 + 1, (nI i)) := by
                        rw [List.range_succ, List.foldl_append, List.foldl_cons, List.foldl_nil]
                        show (if moQ (AL S) n r i = true then (_ + 1, if _ = 0 then nI i else _) else _) = _
                        rw [if_pos eq9]
                        first | (rw [if_pos (by assumption)]; done) | (rw [if_neg (by assumption)]; done)
                      exact ih (i + 1) μ9 _ _ _ (by omega) (modX_tr hX_9 (fun _ _ => trivial)) (fun z hz => by rw [ho_9 z (by omega)]; rw [hoiLOOP z (by omega)]) hW (by rw [e9]; exact lv_sub hl [3, 4, 5, 6, 1, 2, 0] rfl)
          have e1 : (List.range 1).foldl (st1 (moQ (AL S) n r) id) (0, -9) = (0, -9) := by
            show (if moQ (AL S) n r 0 = true then _ else _) = _
            have : isO n 0 = false := by rcases (show n = 1 ∨ n = 2 ∨ n = 3 ∨ n = 4 by omega) with rfl | rfl | rfl | rfl <;> decide
            rw [if_neg (by unfold moQ; rw [this, Bool.false_and]; decide)]
          exact LOOP 4999 1 μ _ _ _ (by omega) (modX_tr hX (fun _ _ => trivial)) off_rf hW (by rw [e1]; exact lv_sub hl [3, 4, 5, 6, 2, 1, 0] rfl)
        · skip
          refine lv_bipush (v := (-2)) hx hb dX5_orders_48 (by decide) ?_
          have hbad : (c14 (nI n) && halI w && movB (AL S) (nI n : Int32).toNatClampNeg (lN r)) = false := by
            rw [‹halI w = false›]; simp
          exact rt_ie F hr hlk hW (by unfold r_orders; rw [hbad]; rfl) ⟨(modX_tr hX (fun _ _ => trivial)), off_rf⟩ dX5_orders_50

set_option maxHeartbeats 4000000 in
set_option maxRecDepth 100000 in
theorem x_piano {cx : CX} (hI : xI cx) (l : Launch) {μ : ME} {S : AS} {B : Nat} {Tr : (Nat → Int32) → Prop} (hN : 149 ≤ xN cx) (hX : modX cx μ S Tr) (hA : aok S B) (hMo : mok S) (hB : B < 800000) (p0 : Int32) : MT cx l yX5_piano cX5_piano 5 (some .int) 5 118 [.ref (xa cx 136), .int p0] μ (Ei cx (r_piano S p0) (fun μ1 => modX cx μ1 S (fun _ => True) ∧ off 136 13 μ μ1)) := by
  refine mt_of hI (by decide) (Nat.le_of_ble_eq_true rfl) ?_
  intro p e s m below meth c ls F hr hlk hW hl
  have hx := F.1.1
  have hb := F.1.2.1
  have hts := F.1.2.2.2.2
  obtain ⟨rh, nx, f1, fn, frd, ft, fo, fa, frw, fh, fu, fb, fz, fkp, g136, g137, g138, g139, g140, g141, g142, g143, g144, g145, g146, g147, g148, hg, hv, ht, hnx, hrw, hse, hkp, hTr⟩ := id hX
  have hk := hA.2.1
  have hn6 := hk.1
  have hk4 := hk.2.2.2.1
  have hU := lok_U hk
  have hV0 := modX_V0 hX
  have hl : lv_has ls 5 [(0, .ref (xa cx 136)), (1, .int p0)] := hl
  refine lv_iload_n hx hb dX5_piano_0 rfl (lv_at hl 1 rfl) ?_
  refine lv_i2l hx hb dX5_piano_1 rfl ?_
  refine lv_lconst (v := lN 1) hx hb dX5_piano_2 (by decide) ?_
  refine lv_ldc2 (v := lN 9) hx hb F.1.2.2.2.1 (hts _ tw_768) dX5_piano_3 ?_
  refine cl_ip (cl_runS (rest := []) F hW e_X5_49 (m_in hI l ((p0.toInt64)) ((lN 1)) ((lN 9))) ⟨Nat.le_of_ble_eq_true rfl, Nat.le_of_ble_eq_true rfl⟩ rfl rfl hl (Nat.le_of_ble_eq_true rfl) dX5_piano_6 ⟨Nat.zero_le _, Nat.zero_le _⟩) hW (fun H locs hW => ?_)
  refine nv_top (y := ((b2 (carI p0)))) (congrArg b2 (inL_car _)) ?_
  refine nv_bne (tgt := 15) F dX5_piano_9 (by decide) (fun c_1 => ?_) (fun c_1 => ?_)
  · skip
    obtain ⟨u, hu1, hu9, rfl⟩ := carI_of c_1
    refine lv_iconst (v := nI 0) hx hb dX5_piano_15 (by decide) ?_
    refine lv_istore_n (lv' := [(2, .int (nI 0)), (0, .ref (xa cx 136)), (1, .int (nI u))]) hx hb dX5_piano_16 rfl hl (by decide) rfl (fun ls hl => ?_)
    refine lv_iconst (v := nI 0) hx hb dX5_piano_17 (by decide) ?_
    refine lv_istore_n (lv' := [(3, .int (nI 0)), (2, .int (nI 0)), (0, .ref (xa cx 136)), (1, .int (nI u))]) hx hb dX5_piano_18 rfl hl (by decide) rfl (fun ls hl => ?_)
    have LOOP : ∀ (d i : Nat)  (μLOOP : ME) (H : Heap) (locs : List Loc) (ls : Array Slot), i + d = Ln (AL S) → (modX cx μLOOP S (fun _ => True)) → (off 136 13 μ μLOOP) → St cx s μLOOP H locs → lv_has ls 5 [(0, .ref (xa cx 136)), (1, .int (nI u)), (2, .int (nI (bitsOf (piB (AL S) u) i))), (3, .int (nI i))] → W p l e { frames := 5, cells := 0, slots := 0, locals := 118 } s m [.ref (xa cx 136), .int (nI u)].toArray below meth c H locs 0 0 (MQ below (Ei cx (r_piano S (nI u)) (fun μ1 => modX cx μ1 S (fun _ => True) ∧ off 136 13 μ μ1)) [.ref (xa cx 136), .int (nI u)].toArray s 0 0 (xA cx)) (F0 m 19 ls []) := by
      intro d
      induction d with
      | zero =>
        intro i  μLOOP H locs ls hid hXiLOOP hoiLOOP hW hl
        obtain ⟨rh_i, nx_i, f1_i, fn_i, frd_i, ft_i, fo_i, fa_i, frw_i, fh_i, fu_i, fb_i, fz_i, fkp_i, g136_i, g137_i, g138_i, g139_i, g140_i, g141_i, g142_i, g143_i, g144_i, g145_i, g146_i, g147_i, g148_i, hg_i, hv_i, ht_i, hnx_i, hrw_i, hse_i, hkp_i, hTr_i⟩ := id hXiLOOP
        have hV0_i := modX_V0 hXiLOOP
        refine lv_iload_n hx hb dX5_piano_19 rfl (lv_at hl 3 rfl) ?_
        refine lv_aload_n hx hb dX5_piano_20 rfl (lv_at hl 0 rfl) ?_
        refine nv_get F hW (by omega) g136_i rfl iX5 0 (by decide) tw_629 rfl dX5_piano_21 ?_
        refine nv_cge (tgt := 113) F (by omega) (by omega) dX5_piano_24 (by decide) (fun c_2 => ?_) (fun c_2 => ?_)
        · skip
          refine lv_iload_n hx hb dX5_piano_113 rfl (lv_at hl 2 rfl) ?_
          exact rt_ie F hr hlk hW (by unfold r_piano; rw [carI_nI (by omega), decide_eq_true (show 1 ≤ u ∧ u ≤ 9 from ⟨hu1, hu9⟩), nI_clamp (by omega), if_pos rfl, show i = Ln (AL S) by omega]) ⟨(modX_tr hXiLOOP (fun _ _ => trivial)), (fun z hz => by rw [hoiLOOP z (by omega)])⟩ dX5_piano_114
        · skip
          exact absurd c_2 (by omega)
      | succ d ih =>
        intro i  μLOOP H locs ls hid hXiLOOP hoiLOOP hW hl
        obtain ⟨rh_i, nx_i, f1_i, fn_i, frd_i, ft_i, fo_i, fa_i, frw_i, fh_i, fu_i, fb_i, fz_i, fkp_i, g136_i, g137_i, g138_i, g139_i, g140_i, g141_i, g142_i, g143_i, g144_i, g145_i, g146_i, g147_i, g148_i, hg_i, hv_i, ht_i, hnx_i, hrw_i, hse_i, hkp_i, hTr_i⟩ := id hXiLOOP
        have hV0_i := modX_V0 hXiLOOP
        refine lv_iload_n hx hb dX5_piano_19 rfl (lv_at hl 3 rfl) ?_
        refine lv_aload_n hx hb dX5_piano_20 rfl (lv_at hl 0 rfl) ?_
        refine nv_get F hW (by omega) g136_i rfl iX5 0 (by decide) tw_629 rfl dX5_piano_21 ?_
        refine nv_cge (tgt := 113) F (by omega) (by omega) dX5_piano_24 (by decide) (fun c_3 => ?_) (fun c_3 => ?_)
        · skip
          exact absurd c_3 (by omega)
        · skip
          refine lv_aload_n hx hb dX5_piano_27 rfl (lv_at hl 0 rfl) ?_
          refine cl_v (cl_run (rest := []) F hW e_X5_134 (m_layTrial hI l hN hXiLOOP hA hMo hB) ⟨Nat.le_of_ble_eq_true rfl, Nat.le_of_ble_eq_true rfl⟩ (by omega) g136_i rfl rfl rfl hl (Nat.le_of_ble_eq_true rfl) dX5_piano_28 ⟨Nat.zero_le _, Nat.zero_le _⟩) hW (fun μ4 H locs q_4 hW => ?_)
          obtain ⟨hX_4, ho_4⟩ := q_4
          obtain ⟨rh_4, nx_4, f1_4, fn_4, frd_4, ft_4, fo_4, fa_4, frw_4, fh_4, fu_4, fb_4, fz_4, fkp_4, g136_4, g137_4, g138_4, g139_4, g140_4, g141_4, g142_4, g143_4, g144_4, g145_4, g146_4, g147_4, g148_4, hg_4, hv_4, ht_4, hnx_4, hrw_4, hse_4, hkp_4, hTr_4⟩ := id hX_4
          have hs_4 : shp (AL S) (AL S) := shp_rf
          have hkT_4 := hk
          have hn_4 : Ln (AL S) = Ln (AL S) := hs_4.1
          have hV0_4 := modX_V0 hX_4
          have hV1_4 := modX_V1 hX_4 hs_4
          refine lv_aload_n hx hb dX5_piano_31 rfl (lv_at hl 0 rfl) ?_
          refine nv_get F hW (by omega) g136_4 rfl iX5 2 (by decide) tw_631 rfl dX5_piano_32 ?_
          refine lv_bipush (v := nI 18) hx hb dX5_piano_35 (by decide) ?_
          refine lv_iload_n hx hb dX5_piano_37 rfl (lv_at hl 3 rfl) ?_
          refine nv_add F dX5_piano_38 ?_
          refine nv_ialdN (x := ((b2 (lst (AL S) i)))) F hW (by omega) g138_4 (by omega) (by decide) ((hv_4.1 i (by omega)).2.2.2.1.trans (b2_n _).symm) dX5_piano_39 ?_
          refine lv_iconst (v := nI 1) hx hb dX5_piano_40 (by decide) ?_
          refine nv_b1ne (tgt := 58) F dX5_piano_41 (by decide) (fun c_5 => ?_) (fun c_5 => ?_)
          · skip
            refine lv_iconst (v := nI 0) hx hb dX5_piano_58 (by decide) ?_
            refine lv_istore (lv' := [(4, .int (nI 0)), (0, .ref (xa cx 136)), (1, .int (nI u)), (2, .int (nI (bitsOf (piB (AL S) u) i))), (3, .int (nI i))]) hx hb dX5_piano_59 hl (by decide) rfl (fun ls hl => ?_)
            refine lv_aload_n hx hb dX5_piano_61 rfl (lv_at hl 1 rfl) ?_
            refine nv_get F hW (by omega) g136_4 rfl iX5 2 (by decide) tw_631 rfl dX5_piano_62 ?_
            refine lv_bipush (v := nI 37) hx hb dX5_piano_65 (by decide) ?_
            refine lv_iload_n hx hb dX5_piano_67 rfl (lv_at hl 4 rfl) ?_
            refine nv_add F dX5_piano_68 ?_
            refine lv_dup2_11 hx hb dX5_piano_69 rfl rfl ?_
            refine nv_ialdN (x := ((nI (Ls (AL S) i)))) F hW (by omega) g138_4 (by omega) (by decide) (hTr_4.1 i (by omega)).2.1 dX5_piano_70 ?_
            refine lv_iload hx hb dX5_piano_71 (lv_at hl 0 rfl) ?_
            refine nv_zeq (tgt := 80) F (by decide) dX5_piano_73 (by decide) (fun c_6 => ?_) (fun c_6 => ?_)
            · skip
              refine lv_iconst (v := nI 0) hx hb dX5_piano_80 (by decide) ?_
              refine nv_add F dX5_piano_81 ?_
              refine nv_iastN F hW (by omega) g138_4 (by omega) (by decide) dX5_piano_82 (fun H locs hW => ?_)
              obtain ⟨μ7, eμ7⟩ : ∃ zz9 : ME, zz9 = va_up μ4 138 (.inl (xT cx 0, 62, .inl (upd fn_4 (37 + i) ((nI ((Ls (AL S) i) + 0)))))) := ⟨_, rfl⟩
              have hW : St cx s μ7 H locs := by rw [eμ7]; exact hW
              have h136_7 := (congrFun eμ7 136).trans ((va_up_ne _ _ (by omega)).trans g136_4)
              have h137_7 := (congrFun eμ7 137).trans ((va_up_ne _ _ (by omega)).trans g137_4)
              have h138_7 : μ7 138 = .inl (xT cx 0, 62, .inl (upd fn_4 (37 + i) ((nI ((Ls (AL S) i) + 0))))) := by rw [eμ7, va_up_self]
              have h139_7 := (congrFun eμ7 139).trans ((va_up_ne _ _ (by omega)).trans g139_4)
              have h140_7 := (congrFun eμ7 140).trans ((va_up_ne _ _ (by omega)).trans g140_4)
              have h141_7 := (congrFun eμ7 141).trans ((va_up_ne _ _ (by omega)).trans g141_4)
              have h142_7 := (congrFun eμ7 142).trans ((va_up_ne _ _ (by omega)).trans g142_4)
              have h143_7 := (congrFun eμ7 143).trans ((va_up_ne _ _ (by omega)).trans g143_4)
              have h144_7 := (congrFun eμ7 144).trans ((va_up_ne _ _ (by omega)).trans g144_4)
              have h145_7 := (congrFun eμ7 145).trans ((va_up_ne _ _ (by omega)).trans g145_4)
              have h146_7 := (congrFun eμ7 146).trans ((va_up_ne _ _ (by omega)).trans g146_4)
              have h147_7 := (congrFun eμ7 147).trans ((va_up_ne _ _ (by omega)).trans g147_4)
              have h148_7 := (congrFun eμ7 148).trans ((va_up_ne _ _ (by omega)).trans g148_4)
              have hX_t7 : modX cx μ7 S (fun fn => lv fn 31 (AL S)) := modX_138 hX_4 hn6 g138_4 eμ7 (fun z hz => upd_ne (by omega)) (lv_same hTr_4 (hTr_4.1 i (by omega)).2.1)
              obtain ⟨rh_t7, nx_t7, f1_t7, fn_t7, frd_t7, ft_t7, fo_t7, fa_t7, frw_t7, fh_t7, fu_t7, fb_t7, fz_t7, fkp_t7, g136_t7, g137_t7, g138_t7, g139_t7, g140_t7, g141_t7, g142_t7, g143_t7, g144_t7, g145_t7, g146_t7, g147_t7, g148_t7, hg_t7, hv_t7, ht_t7, hnx_t7, hrw_t7, hse_t7, hkp_t7, hTr_t7⟩ := id hX_t7
              have hs_t7 : shp (AL S) (AL S) := shp_rf
              have hkT_t7 := hk
              have hn_t7 : Ln (AL S) = Ln (AL S) := hs_t7.1
              have hV0_t7 := modX_V0 hX_t7
              have hV1_t7 := modX_V1 hX_t7 hs_t7
              refine lv_iload_n hx hb dX5_piano_83 rfl (lv_at hl 3 rfl) ?_
              refine lv_iload hx hb dX5_piano_84 (lv_at hl 0 rfl) ?_
              refine nv_zeq (tgt := 104) F (by decide) dX5_piano_86 (by decide) (fun c_8 => ?_) (fun c_8 => ?_)
              · skip
                refine lv_iconst (v := nI 0) hx hb dX5_piano_104 (by decide) ?_
                refine nv_or F dX5_piano_105 ?_
                refine lv_istore_n (lv' := [(2, .int (nI ((bitsOf (piB (AL S) u) i) ||| 0))), (4, .int (nI 0)), (0, .ref (xa cx 136)), (1, .int (nI u)), (3, .int (nI i))]) hx hb dX5_piano_106 rfl hl (by decide) rfl (fun ls hl => ?_)
                refine lv_iinc (v := ((nI (i + 1)))) (lv' := [(3, .int (nI (i + 1))), (2, .int (nI ((bitsOf (piB (AL S) u) i) ||| 0))), (4, .int (nI 0)), (0, .ref (xa cx 136)), (1, .int (nI u))]) hx hb dX5_piano_107 hl (k := 4) rfl (nI_add _ _) (by decide) rfl (fun ls hl => ?_)
                refine lv_goto (tgt := 19) hx hb dX5_piano_110 (by decide) ?_
                have eR : piB (AL S) u i = false := by
                  unfold piB
                  first | (rw [‹lst (AL S) i = false›]; rfl) | (rw [‹canA (AL S) i u = false›, Bool.false_and, Bool.and_false]; done) | (rw [‹lst (AL S) i = true›, ‹canA (AL S) i u = true›, (orF_calm (addS (AL S) i u) 6).mp (by assumption)]; rfl) | (have q9 : calm 6 (addS (AL S) i u) = false := Bool.eq_false_iff.mpr (fun z => absurd ((orF_calm _ 6).mpr z) (by assumption)); rw [q9, Bool.and_false, Bool.and_false])
                exact ih (i + 1) μ7 _ _ _ (by omega) (modX_tr hX_t7 (fun _ _ => trivial)) (fun z hz => by rw [eμ7, va_up_ne _ _ (by omega)]; rw [ho_4 z (by omega)]; rw [hoiLOOP z (by omega)]) hW (by have e9 : bitsOf (piB (AL S) u) (i + 1) = (bitsOf (piB (AL S) u) i) ||| 0 := (by show bitsOf (piB (AL S) u) i ||| _ = _; rw [eR]; rfl); rw [e9]; exact lv_sub hl [3, 4, 1, 0] rfl)
              · skip
                exact absurd c_8 (by decide)
            · skip
              exact absurd c_6 (by decide)
          · skip
            refine lv_aload_n hx hb dX5_piano_44 rfl (lv_at hl 0 rfl) ?_
            refine lv_iconst (v := nI 0) hx hb dX5_piano_45 (by decide) ?_
            refine lv_iload_n hx hb dX5_piano_46 rfl (lv_at hl 3 rfl) ?_
            refine lv_iload_n hx hb dX5_piano_47 rfl (lv_at hl 1 rfl) ?_
            refine cl_ip (cl_run (rest := []) F hW e_X5_119 (m_canBring hI l hN hV0_4 hk (by omega) (by omega) i u (by omega) (by omega)) ⟨Nat.le_of_ble_eq_true rfl, Nat.le_of_ble_eq_true rfl⟩ (by omega) g136_4 rfl rfl rfl hl (Nat.le_of_ble_eq_true rfl) dX5_piano_48 ⟨Nat.zero_le _, Nat.zero_le _⟩) hW (fun H locs hW => ?_)
            refine nv_beq (tgt := 58) F dX5_piano_51 (by decide) (fun c_9 => ?_) (fun c_9 => ?_)
            · skip
              refine lv_iconst (v := nI 0) hx hb dX5_piano_58 (by decide) ?_
              refine lv_istore (lv' := [(4, .int (nI 0)), (0, .ref (xa cx 136)), (1, .int (nI u)), (2, .int (nI (bitsOf (piB (AL S) u) i))), (3, .int (nI i))]) hx hb dX5_piano_59 hl (by decide) rfl (fun ls hl => ?_)
              refine lv_aload_n hx hb dX5_piano_61 rfl (lv_at hl 1 rfl) ?_
              refine nv_get F hW (by omega) g136_4 rfl iX5 2 (by decide) tw_631 rfl dX5_piano_62 ?_
              refine lv_bipush (v := nI 37) hx hb dX5_piano_65 (by decide) ?_
              refine lv_iload_n hx hb dX5_piano_67 rfl (lv_at hl 4 rfl) ?_
              refine nv_add F dX5_piano_68 ?_
              refine lv_dup2_11 hx hb dX5_piano_69 rfl rfl ?_
              refine nv_ialdN (x := ((nI (Ls (AL S) i)))) F hW (by omega) g138_4 (by omega) (by decide) (hTr_4.1 i (by omega)).2.1 dX5_piano_70 ?_
              refine lv_iload hx hb dX5_piano_71 (lv_at hl 0 rfl) ?_
              refine nv_zeq (tgt := 80) F (by decide) dX5_piano_73 (by decide) (fun c_10 => ?_) (fun c_10 => ?_)
              · skip
                refine lv_iconst (v := nI 0) hx hb dX5_piano_80 (by decide) ?_
                refine nv_add F dX5_piano_81 ?_
                refine nv_iastN F hW (by omega) g138_4 (by omega) (by decide) dX5_piano_82 (fun H locs hW => ?_)
                obtain ⟨μ11, eμ11⟩ : ∃ zz9 : ME, zz9 = va_up μ4 138 (.inl (xT cx 0, 62, .inl (upd fn_4 (37 + i) ((nI ((Ls (AL S) i) + 0)))))) := ⟨_, rfl⟩
                have hW : St cx s μ11 H locs := by rw [eμ11]; exact hW
                have h136_11 := (congrFun eμ11 136).trans ((va_up_ne _ _ (by omega)).trans g136_4)
                have h137_11 := (congrFun eμ11 137).trans ((va_up_ne _ _ (by omega)).trans g137_4)
                have h138_11 : μ11 138 = .inl (xT cx 0, 62, .inl (upd fn_4 (37 + i) ((nI ((Ls (AL S) i) + 0))))) := by rw [eμ11, va_up_self]
                have h139_11 := (congrFun eμ11 139).trans ((va_up_ne _ _ (by omega)).trans g139_4)
                have h140_11 := (congrFun eμ11 140).trans ((va_up_ne _ _ (by omega)).trans g140_4)
                have h141_11 := (congrFun eμ11 141).trans ((va_up_ne _ _ (by omega)).trans g141_4)
                have h142_11 := (congrFun eμ11 142).trans ((va_up_ne _ _ (by omega)).trans g142_4)
                have h143_11 := (congrFun eμ11 143).trans ((va_up_ne _ _ (by omega)).trans g143_4)
                have h144_11 := (congrFun eμ11 144).trans ((va_up_ne _ _ (by omega)).trans g144_4)
                have h145_11 := (congrFun eμ11 145).trans ((va_up_ne _ _ (by omega)).trans g145_4)
                have h146_11 := (congrFun eμ11 146).trans ((va_up_ne _ _ (by omega)).trans g146_4)
                have h147_11 := (congrFun eμ11 147).trans ((va_up_ne _ _ (by omega)).trans g147_4)
                have h148_11 := (congrFun eμ11 148).trans ((va_up_ne _ _ (by omega)).trans g148_4)
                have hX_t11 : modX cx μ11 S (fun fn => lv fn 31 (AL S)) := modX_138 hX_4 hn6 g138_4 eμ11 (fun z hz => upd_ne (by omega)) (lv_same hTr_4 (hTr_4.1 i (by omega)).2.1)
                obtain ⟨rh_t11, nx_t11, f1_t11, fn_t11, frd_t11, ft_t11, fo_t11, fa_t11, frw_t11, fh_t11, fu_t11, fb_t11, fz_t11, fkp_t11, g136_t11, g137_t11, g138_t11, g139_t11, g140_t11, g141_t11, g142_t11, g143_t11, g144_t11, g145_t11, g146_t11, g147_t11, g148_t11, hg_t11, hv_t11, ht_t11, hnx_t11, hrw_t11, hse_t11, hkp_t11, hTr_t11⟩ := id hX_t11
                have hs_t11 : shp (AL S) (AL S) := shp_rf
                have hkT_t11 := hk
                have hn_t11 : Ln (AL S) = Ln (AL S) := hs_t11.1
                have hV0_t11 := modX_V0 hX_t11
                have hV1_t11 := modX_V1 hX_t11 hs_t11
                refine lv_iload_n hx hb dX5_piano_83 rfl (lv_at hl 3 rfl) ?_
                refine lv_iload hx hb dX5_piano_84 (lv_at hl 0 rfl) ?_
                refine nv_zeq (tgt := 104) F (by decide) dX5_piano_86 (by decide) (fun c_12 => ?_) (fun c_12 => ?_)
                · skip
                  refine lv_iconst (v := nI 0) hx hb dX5_piano_104 (by decide) ?_
                  refine nv_or F dX5_piano_105 ?_
                  refine lv_istore_n (lv' := [(2, .int (nI ((bitsOf (piB (AL S) u) i) ||| 0))), (4, .int (nI 0)), (0, .ref (xa cx 136)), (1, .int (nI u)), (3, .int (nI i))]) hx hb dX5_piano_106 rfl hl (by decide) rfl (fun ls hl => ?_)
                  refine lv_iinc (v := ((nI (i + 1)))) (lv' := [(3, .int (nI (i + 1))), (2, .int (nI ((bitsOf (piB (AL S) u) i) ||| 0))), (4, .int (nI 0)), (0, .ref (xa cx 136)), (1, .int (nI u))]) hx hb dX5_piano_107 hl (k := 4) rfl (nI_add _ _) (by decide) rfl (fun ls hl => ?_)
                  refine lv_goto (tgt := 19) hx hb dX5_piano_110 (by decide) ?_
                  have eR : piB (AL S) u i = false := by
                    unfold piB
                    first | (rw [‹lst (AL S) i = false›]; rfl) | (rw [‹canA (AL S) i u = false›, Bool.false_and, Bool.and_false]; done) | (rw [‹lst (AL S) i = true›, ‹canA (AL S) i u = true›, (orF_calm (addS (AL S) i u) 6).mp (by assumption)]; rfl) | (have q9 : calm 6 (addS (AL S) i u) = false := Bool.eq_false_iff.mpr (fun z => absurd ((orF_calm _ 6).mpr z) (by assumption)); rw [q9, Bool.and_false, Bool.and_false])
                  exact ih (i + 1) μ11 _ _ _ (by omega) (modX_tr hX_t11 (fun _ _ => trivial)) (fun z hz => by rw [eμ11, va_up_ne _ _ (by omega)]; rw [ho_4 z (by omega)]; rw [hoiLOOP z (by omega)]) hW (by have e9 : bitsOf (piB (AL S) u) (i + 1) = (bitsOf (piB (AL S) u) i) ||| 0 := (by show bitsOf (piB (AL S) u) i ||| _ = _; rw [eR]; rfl); rw [e9]; exact lv_sub hl [3, 4, 1, 0] rfl)
                · skip
                  exact absurd c_12 (by decide)
              · skip
                exact absurd c_10 (by decide)
            · skip
              refine lv_iconst (v := nI 1) hx hb dX5_piano_54 (by decide) ?_
              refine lv_goto (tgt := 59) hx hb dX5_piano_55 (by decide) ?_
              refine lv_istore (lv' := [(4, .int (nI 1)), (0, .ref (xa cx 136)), (1, .int (nI u)), (2, .int (nI (bitsOf (piB (AL S) u) i))), (3, .int (nI i))]) hx hb dX5_piano_59 hl (by decide) rfl (fun ls hl => ?_)
              refine lv_aload_n hx hb dX5_piano_61 rfl (lv_at hl 1 rfl) ?_
              refine nv_get F hW (by omega) g136_4 rfl iX5 2 (by decide) tw_631 rfl dX5_piano_62 ?_
              refine lv_bipush (v := nI 37) hx hb dX5_piano_65 (by decide) ?_
              refine lv_iload_n hx hb dX5_piano_67 rfl (lv_at hl 4 rfl) ?_
              refine nv_add F dX5_piano_68 ?_
              refine lv_dup2_11 hx hb dX5_piano_69 rfl rfl ?_
              refine nv_ialdN (x := ((nI (Ls (AL S) i)))) F hW (by omega) g138_4 (by omega) (by decide) (hTr_4.1 i (by omega)).2.1 dX5_piano_70 ?_
              refine lv_iload hx hb dX5_piano_71 (lv_at hl 0 rfl) ?_
              refine nv_zeq (tgt := 80) F (by decide) dX5_piano_73 (by decide) (fun c_13 => ?_) (fun c_13 => ?_)
              · skip
                exact absurd c_13 (by decide)
              · skip
                refine lv_iload_n hx hb dX5_piano_76 rfl (lv_at hl 2 rfl) ?_
                refine lv_goto (tgt := 81) hx hb dX5_piano_77 (by decide) ?_
                refine nv_add F dX5_piano_81 ?_
                refine nv_iastN F hW (by omega) g138_4 (by omega) (by decide) dX5_piano_82 (fun H locs hW => ?_)
                obtain ⟨μ14, eμ14⟩ : ∃ zz9 : ME, zz9 = va_up μ4 138 (.inl (xT cx 0, 62, .inl (upd fn_4 (37 + i) ((nI ((Ls (AL S) i) + u)))))) := ⟨_, rfl⟩
                have hW : St cx s μ14 H locs := by rw [eμ14]; exact hW
                have h136_14 := (congrFun eμ14 136).trans ((va_up_ne _ _ (by omega)).trans g136_4)
                have h137_14 := (congrFun eμ14 137).trans ((va_up_ne _ _ (by omega)).trans g137_4)
                have h138_14 : μ14 138 = .inl (xT cx 0, 62, .inl (upd fn_4 (37 + i) ((nI ((Ls (AL S) i) + u))))) := by rw [eμ14, va_up_self]
                have h139_14 := (congrFun eμ14 139).trans ((va_up_ne _ _ (by omega)).trans g139_4)
                have h140_14 := (congrFun eμ14 140).trans ((va_up_ne _ _ (by omega)).trans g140_4)
                have h141_14 := (congrFun eμ14 141).trans ((va_up_ne _ _ (by omega)).trans g141_4)
                have h142_14 := (congrFun eμ14 142).trans ((va_up_ne _ _ (by omega)).trans g142_4)
                have h143_14 := (congrFun eμ14 143).trans ((va_up_ne _ _ (by omega)).trans g143_4)
                have h144_14 := (congrFun eμ14 144).trans ((va_up_ne _ _ (by omega)).trans g144_4)
                have h145_14 := (congrFun eμ14 145).trans ((va_up_ne _ _ (by omega)).trans g145_4)
                have h146_14 := (congrFun eμ14 146).trans ((va_up_ne _ _ (by omega)).trans g146_4)
                have h147_14 := (congrFun eμ14 147).trans ((va_up_ne _ _ (by omega)).trans g147_4)
                have h148_14 := (congrFun eμ14 148).trans ((va_up_ne _ _ (by omega)).trans g148_4)
                have hX_t14 : modX cx μ14 S (fun fn => lv fn 31 (addS (AL S) i u)) := modX_138 hX_4 hn6 g138_4 eμ14 (fun z hz => upd_ne (by omega)) (by unfold addS; rw [if_pos (by assumption)]; exact lv_s (o := 31) hTr_4 hn6 (by omega))
                obtain ⟨rh_t14, nx_t14, f1_t14, fn_t14, frd_t14, ft_t14, fo_t14, fa_t14, frw_t14, fh_t14, fu_t14, fb_t14, fz_t14, fkp_t14, g136_t14, g137_t14, g138_t14, g139_t14, g140_t14, g141_t14, g142_t14, g143_t14, g144_t14, g145_t14, g146_t14, g147_t14, g148_t14, hg_t14, hv_t14, ht_t14, hnx_t14, hrw_t14, hse_t14, hkp_t14, hTr_t14⟩ := id hX_t14
                have hs_t14 : shp (addS (AL S) i u) (AL S) := shp_addS
                have hkT_t14 := lok_addS hk i u
                have hn_t14 : Ln (addS (AL S) i u) = Ln (AL S) := hs_t14.1
                have hV0_t14 := modX_V0 hX_t14
                have hV1_t14 := modX_V1 hX_t14 hs_t14
                refine lv_iload_n hx hb dX5_piano_83 rfl (lv_at hl 3 rfl) ?_
                refine lv_iload hx hb dX5_piano_84 (lv_at hl 0 rfl) ?_
                refine nv_zeq (tgt := 104) F (by decide) dX5_piano_86 (by decide) (fun c_15 => ?_) (fun c_15 => ?_)
                · skip
                  exact absurd c_15 (by decide)
                · skip
                  refine lv_aload_n hx hb dX5_piano_89 rfl (lv_at hl 1 rfl) ?_
                  refine lv_bipush (v := nI 6) hx hb dX5_piano_90 (by decide) ?_
                  refine cl_ie (cl_run (rest := [.int (nI (bitsOf (piB (AL S) u) i))]) F hW e_X5_137 (m_goOn hI l hN hX_t14 hA hMo hB hs_t14 hkT_t14 (by omega) 6 (by omega)) ⟨Nat.le_of_ble_eq_true rfl, Nat.le_of_ble_eq_true rfl⟩ (by omega) g136_t14 rfl rfl rfl hl (Nat.le_of_ble_eq_true rfl) dX5_piano_92 ⟨Nat.zero_le _, Nat.zero_le _⟩) hW (fun μ16 H locs q_16 hW => ?_)
                  obtain ⟨hX_16, ho_16⟩ := q_16
                  obtain ⟨rh_16, nx_16, f1_16, fn_16, frd_16, ft_16, fo_16, fa_16, frw_16, fh_16, fu_16, fb_16, fz_16, fkp_16, g136_16, g137_16, g138_16, g139_16, g140_16, g141_16, g142_16, g143_16, g144_16, g145_16, g146_16, g147_16, g148_16, hg_16, hv_16, ht_16, hnx_16, hrw_16, hse_16, hkp_16, hTr_16⟩ := id hX_16
                  have hs_16 : shp (hrs 6 (addS (AL S) i u)) (AL S) := shp_tr (shp_hrs 6) hs_t14
                  have hkT_16 := lok_hrs hkT_t14 6
                  have hn_16 : Ln (hrs 6 (addS (AL S) i u)) = Ln (AL S) := hs_16.1
                  have hV0_16 := modX_V0 hX_16
                  have hV1_16 := modX_V1 hX_16 hs_16
                  refine nv_zne (tgt := 104) F (by have := orF_lt (L := addS (AL S) i u) (by rw [addS_n]; exact hn6) 6; omega) dX5_piano_95 (by decide) (fun c_17 => ?_) (fun c_17 => ?_)
                  · skip
                    refine lv_iconst (v := nI 0) hx hb dX5_piano_104 (by decide) ?_
                    refine nv_or F dX5_piano_105 ?_
                    refine lv_istore_n (lv' := [(2, .int (nI ((bitsOf (piB (AL S) u) i) ||| 0))), (4, .int (nI 1)), (0, .ref (xa cx 136)), (1, .int (nI u)), (3, .int (nI i))]) hx hb dX5_piano_106 rfl hl (by decide) rfl (fun ls hl => ?_)
                    refine lv_iinc (v := ((nI (i + 1)))) (lv' := [(3, .int (nI (i + 1))), (2, .int (nI ((bitsOf (piB (AL S) u) i) ||| 0))), (4, .int (nI 1)), (0, .ref (xa cx 136)), (1, .int (nI u))]) hx hb dX5_piano_107 hl (k := 4) rfl (nI_add _ _) (by decide) rfl (fun ls hl => ?_)
                    refine lv_goto (tgt := 19) hx hb dX5_piano_110 (by decide) ?_
                    have eR : piB (AL S) u i = false := by
                      unfold piB
                      first | (rw [‹lst (AL S) i = false›]; rfl) | (rw [‹canA (AL S) i u = false›, Bool.false_and, Bool.and_false]; done) | (rw [‹lst (AL S) i = true›, ‹canA (AL S) i u = true›, (orF_calm (addS (AL S) i u) 6).mp (by assumption)]; rfl) | (have q9 : calm 6 (addS (AL S) i u) = false := Bool.eq_false_iff.mpr (fun z => absurd ((orF_calm _ 6).mpr z) (by assumption)); rw [q9, Bool.and_false, Bool.and_false])
                    exact ih (i + 1) μ16 _ _ _ (by omega) (modX_tr hX_16 (fun _ _ => trivial)) (fun z hz => by rw [ho_16 z (by omega)]; rw [eμ14, va_up_ne _ _ (by omega)]; rw [ho_4 z (by omega)]; rw [hoiLOOP z (by omega)]) hW (by have e9 : bitsOf (piB (AL S) u) (i + 1) = (bitsOf (piB (AL S) u) i) ||| 0 := (by show bitsOf (piB (AL S) u) i ||| _ = _; rw [eR]; rfl); rw [e9]; exact lv_sub hl [3, 4, 1, 0] rfl)
                  · skip
                    refine lv_iconst (v := nI 1) hx hb dX5_piano_98 (by decide) ?_
                    refine lv_iload_n hx hb dX5_piano_99 rfl (lv_at hl 4 rfl) ?_
                    refine nv_shl F (by omega) (pow2_lt (by omega)) dX5_piano_100 ?_
                    refine nv_top (y := ((nI (2 ^ i)))) (by rw [Nat.one_mul]) ?_
                    refine lv_goto (tgt := 105) hx hb dX5_piano_101 (by decide) ?_
                    refine nv_or F dX5_piano_105 ?_
                    refine lv_istore_n (lv' := [(2, .int (nI ((bitsOf (piB (AL S) u) i) ||| (2 ^ i)))), (4, .int (nI 1)), (0, .ref (xa cx 136)), (1, .int (nI u)), (3, .int (nI i))]) hx hb dX5_piano_106 rfl hl (by decide) rfl (fun ls hl => ?_)
                    refine lv_iinc (v := ((nI (i + 1)))) (lv' := [(3, .int (nI (i + 1))), (2, .int (nI ((bitsOf (piB (AL S) u) i) ||| (2 ^ i)))), (4, .int (nI 1)), (0, .ref (xa cx 136)), (1, .int (nI u))]) hx hb dX5_piano_107 hl (k := 4) rfl (nI_add _ _) (by decide) rfl (fun ls hl => ?_)
                    refine lv_goto (tgt := 19) hx hb dX5_piano_110 (by decide) ?_
                    have eR : piB (AL S) u i = true := by
                      unfold piB
                      first | (rw [‹lst (AL S) i = false›]; rfl) | (rw [‹canA (AL S) i u = false›, Bool.false_and, Bool.and_false]; done) | (rw [‹lst (AL S) i = true›, ‹canA (AL S) i u = true›, (orF_calm (addS (AL S) i u) 6).mp (by assumption)]; rfl) | (have q9 : calm 6 (addS (AL S) i u) = false := Bool.eq_false_iff.mpr (fun z => absurd ((orF_calm _ 6).mpr z) (by assumption)); rw [q9, Bool.and_false, Bool.and_false])
                    exact ih (i + 1) μ16 _ _ _ (by omega) (modX_tr hX_16 (fun _ _ => trivial)) (fun z hz => by rw [ho_16 z (by omega)]; rw [eμ14, va_up_ne _ _ (by omega)]; rw [ho_4 z (by omega)]; rw [hoiLOOP z (by omega)]) hW (by have e9 : bitsOf (piB (AL S) u) (i + 1) = (bitsOf (piB (AL S) u) i) ||| (2 ^ i) := (by show bitsOf (piB (AL S) u) i ||| _ = _; rw [eR]; rfl); rw [e9]; exact lv_sub hl [3, 4, 1, 0] rfl)
    exact LOOP (Ln (AL S)) 0 μ _ _ _ (by omega) (modX_tr hX (fun _ _ => trivial)) off_rf hW (lv_sub hl [2, 3, 1, 0] rfl)
  · skip
    refine lv_bipush (v := (-2)) hx hb dX5_piano_12 (by decide) ?_
    exact rt_ie F hr hlk hW (by unfold r_piano; rw [‹carI p0 = false›]; rfl) ⟨(modX_tr hX (fun _ _ => trivial)), off_rf⟩ dX5_piano_14
