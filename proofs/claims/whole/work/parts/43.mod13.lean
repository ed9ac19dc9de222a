def tB (L : LN) (how a two : Nat) : Bool := if how = 0 then decide (a = 0 ∧ two = 0) else if how = 1 then decide (a = 0) && canA L (two / 10) (two % 10) else if how = 2 then decide (a = 0) && canS L (two / 10) (two % 10) else if how = 3 then decide (a = 0) && canD L (two / 10) (two % 10) else if how = 4 then decide (a = 0 ∧ two / 10 = 0) && canR L (two % 10) else if how = 5 then decide (a = 0 ∧ two / 10 = 0) && lst L (two % 10) else if how = 6 then decide (a < Ln L) && decide (two ≤ Ll L a) else false
def tL (L : LN) (how two : Nat) : LN := if how = 0 then hour L else if how = 1 then addS L (two / 10) (two % 10) else if how = 2 then subS L (two / 10) (two % 10) else if how = 3 then setD L (two / 10) (two % 10) else if how = 4 then raiseL L (two % 10) else L
def tR (L : LN) (how a two : Nat) : LN := if tB L how a two then tL L how two else L
theorem shp_tR {L : LN} {how a two : Nat} : shp (tR L how a two) L := by
  unfold tR tL
  split
  · split
    · exact shp_hour
    · split
      · exact shp_addS
      · split
        · exact shp_subS
        · split
          · exact shp_setD
          · split
            · exact shp_raiseL
            · exact shp_rf
  · exact shp_rf
theorem lok_tR {L : LN} {B : Nat} (hk : lok L B) (how a two : Nat) : lok (tR L how a two) (B + 600) := by
  unfold tR tL
  split
  · split
    · exact lok_hour hk
    · split
      · exact lok_mono (lok_addS hk _ _) (by omega)
      · split
        · exact lok_mono (lok_subS hk _ _) (by omega)
        · split
          · exact lok_mono (lok_setD hk _ _) (by omega)
          · split
            · exact lok_raiseL hk _
            · exact lok_mono hk (by omega)
  · exact lok_mono hk (by omega)

set_option maxHeartbeats 4000000 in
set_option maxRecDepth 100000 in
theorem m_tryThing {cx : CX} (hI : xI cx) (l : Launch) {μ : ME} {S : AS} {B : Nat} {LT : LN} {BT : Nat} (hN : 149 ≤ xN cx) (hX : modX cx μ S (fun fn => lv fn 31 LT)) (hA : aok S B) (hMo : mok S) (hB : B < 800000) (hs : shp LT (AL S)) (hkT : lok LT BT) (hBT : BT < 900000) (how a two : Nat) (hhow : how < 10) (haa : a < 10) (htw : two < 100) : MT cx l yX5_tryThing cX5_tryThing 11 (some .boolean) 5 118 [.ref (xa cx 136), .int (nI how), .int (nI a), .int (nI two)] μ (Ei cx (b2 (tB LT how a two)) (fun μ1 => modX cx μ1 S (fun fn => lv fn 31 (tR LT how a two)) ∧ off 136 13 μ μ1)) := by
  refine mt_of hI (by decide) (Nat.le_of_ble_eq_true rfl) ?_
  intro p e s m below meth c ls F hr hlk hW hl
  have hx := F.1.1
  have hb := F.1.2.1
  have hts := F.1.2.2.2.2
  obtain ⟨rh, nx, f1, fn, frd, ft, fo, fa, frw, fh, fu, fb, fz, fkp, g136, g137, g138, g139, g140, g141, g142, g143, g144, g145, g146, g147, g148, hg, hv, ht, hnx, hrw, hse, hkp, hTr⟩ := id hX
  have hk := hA.2.1
  have hn6 := hk.1
  have hk4 := hk.2.2.2.1
  have hU := lok_U hk
  have hV0 := modX_V0 hX
  have hV1 := modX_V1 hX hs
  have hnT : Ln LT = Ln (AL S) := hs.1
  have hl : lv_has ls 11 [(0, .ref (xa cx 136)), (1, .int (nI how)), (2, .int (nI a)), (3, .int (nI two))] := hl
  refine lv_iload_n hx hb dX5_tryThing_0 rfl (lv_at hl 3 rfl) ?_
  refine lv_bipush (v := nI 10) hx hb dX5_tryThing_1 (by decide) ?_
  refine nv_div F (by omega) (by omega) (by omega) dX5_tryThing_3 ?_
  refine lv_istore (lv' := [(4, .int (nI (two / 10))), (0, .ref (xa cx 136)), (1, .int (nI how)), (2, .int (nI a)), (3, .int (nI two))]) hx hb dX5_tryThing_4 hl (by decide) rfl (fun ls hl => ?_)
  refine lv_iload_n hx hb dX5_tryThing_6 rfl (lv_at hl 4 rfl) ?_
  refine lv_bipush (v := nI 10) hx hb dX5_tryThing_7 (by decide) ?_
  refine nv_rem F (by omega) (by omega) (by omega) dX5_tryThing_9 ?_
  refine lv_istore (lv' := [(5, .int (nI (two % 10))), (4, .int (nI (two / 10))), (0, .ref (xa cx 136)), (1, .int (nI how)), (2, .int (nI a)), (3, .int (nI two))]) hx hb dX5_tryThing_10 hl (by decide) rfl (fun ls hl => ?_)
  refine lv_iload_n hx hb dX5_tryThing_12 rfl (lv_at hl 3 rfl) ?_
  rcases (show how = 0 ∨ how = 1 ∨ how = 2 ∨ how = 3 ∨ how = 4 ∨ how = 5 ∨ how = 6 ∨ 7 ≤ how by omega) with rfl | rfl | rfl | rfl | rfl | rfl | rfl | h7
  · skip
    refine lv_tableIn (tgt := 56) hx hb dX5_tryThing_13 (by decide) (by decide) rfl (by decide) ?_
    refine lv_iload_n hx hb dX5_tryThing_56 rfl (lv_at hl 4 rfl) ?_
    refine nv_zne (tgt := 68) F (by omega) dX5_tryThing_57 (by decide) (fun c_1 => ?_) (fun c_1 => ?_)
    · skip
      refine lv_iconst (v := nI 0) hx hb dX5_tryThing_68 (by decide) ?_
      refine lv_istore (lv' := [(6, .int (nI 0)), (5, .int (nI (two % 10))), (4, .int (nI (two / 10))), (0, .ref (xa cx 136)), (1, .int (nI 0)), (2, .int (nI a)), (3, .int (nI two))]) hx hb dX5_tryThing_69 hl (by decide) rfl (fun ls hl => ?_)
      refine lv_iload hx hb dX5_tryThing_71 (lv_at hl 0 rfl) ?_
      refine nv_zeq (tgt := 82) F (by decide) dX5_tryThing_73 (by decide) (fun c_2 => ?_) (fun c_2 => ?_)
      · skip
        refine lv_iload hx hb dX5_tryThing_82 (lv_at hl 0 rfl) ?_
        have eT : tB LT 0 a two = false := by show decide (a = 0 ∧ two = 0) = _; exact decide_eq_false (by omega)
        have eR : tR LT 0 a two = LT := by unfold tR; rw [eT]; rfl
        exact rt_ze F hr hlk hW (by rw [eT]; rfl) ⟨by rw [eR]; exact hX, off_rf⟩ dX5_tryThing_84
      · skip
        exact absurd c_2 (by decide)
    · skip
      refine lv_iload_n hx hb dX5_tryThing_60 rfl (lv_at hl 5 rfl) ?_
      refine nv_zne (tgt := 68) F (by omega) dX5_tryThing_61 (by decide) (fun c_3 => ?_) (fun c_3 => ?_)
      · skip
        refine lv_iconst (v := nI 0) hx hb dX5_tryThing_68 (by decide) ?_
        refine lv_istore (lv' := [(6, .int (nI 0)), (5, .int (nI (two % 10))), (4, .int (nI (two / 10))), (0, .ref (xa cx 136)), (1, .int (nI 0)), (2, .int (nI a)), (3, .int (nI two))]) hx hb dX5_tryThing_69 hl (by decide) rfl (fun ls hl => ?_)
        refine lv_iload hx hb dX5_tryThing_71 (lv_at hl 0 rfl) ?_
        refine nv_zeq (tgt := 82) F (by decide) dX5_tryThing_73 (by decide) (fun c_4 => ?_) (fun c_4 => ?_)
        · skip
          refine lv_iload hx hb dX5_tryThing_82 (lv_at hl 0 rfl) ?_
          have eT : tB LT 0 a two = false := by show decide (a = 0 ∧ two = 0) = _; exact decide_eq_false (by omega)
          have eR : tR LT 0 a two = LT := by unfold tR; rw [eT]; rfl
          exact rt_ze F hr hlk hW (by rw [eT]; rfl) ⟨by rw [eR]; exact hX, off_rf⟩ dX5_tryThing_84
        · skip
          exact absurd c_4 (by decide)
      · skip
        refine lv_iconst (v := nI 1) hx hb dX5_tryThing_64 (by decide) ?_
        refine lv_goto (tgt := 69) hx hb dX5_tryThing_65 (by decide) ?_
        refine lv_istore (lv' := [(6, .int (nI 1)), (5, .int (nI (two % 10))), (4, .int (nI (two / 10))), (0, .ref (xa cx 136)), (1, .int (nI 0)), (2, .int (nI a)), (3, .int (nI two))]) hx hb dX5_tryThing_69 hl (by decide) rfl (fun ls hl => ?_)
        refine lv_iload hx hb dX5_tryThing_71 (lv_at hl 0 rfl) ?_
        refine nv_zeq (tgt := 82) F (by decide) dX5_tryThing_73 (by decide) (fun c_5 => ?_) (fun c_5 => ?_)
        · skip
          exact absurd c_5 (by decide)
        · skip
          refine lv_aload_n hx hb dX5_tryThing_76 rfl (lv_at hl 3 rfl) ?_
          refine lv_iconst (v := nI 1) hx hb dX5_tryThing_77 (by decide) ?_
          refine cl_ie (cl_run (rest := []) F hW e_X5_137 (m_goOn1 hI l hN hX hA hMo hB hs hkT (by omega)) ⟨Nat.le_of_ble_eq_true rfl, Nat.le_of_ble_eq_true rfl⟩ (by omega) g136 rfl rfl rfl hl (Nat.le_of_ble_eq_true rfl) dX5_tryThing_78 ⟨Nat.zero_le _, Nat.zero_le _⟩) hW (fun μ6 H locs q_6 hW => ?_)
          obtain ⟨hX_6, ho_6⟩ := q_6
          have hX_6 : modX cx μ6 S (fun fn => lv fn 31 (hour LT)) := hX_6
          obtain ⟨rh_6, nx_6, f1_6, fn_6, frd_6, ft_6, fo_6, fa_6, frw_6, fh_6, fu_6, fb_6, fz_6, fkp_6, g136_6, g137_6, g138_6, g139_6, g140_6, g141_6, g142_6, g143_6, g144_6, g145_6, g146_6, g147_6, g148_6, hg_6, hv_6, ht_6, hnx_6, hrw_6, hse_6, hkp_6, hTr_6⟩ := id hX_6
          have hs_6 : shp (hour LT) (AL S) := shp_tr shp_hour hs
          have hkT_6 := lok_hour hkT
          have hn_6 : Ln (hour LT) = Ln (AL S) := hs_6.1
          have hV0_6 := modX_V0 hX_6
          have hV1_6 := modX_V1 hX_6 hs_6
          refine lv_pop hx hb dX5_tryThing_81 rfl ?_
          refine lv_iload hx hb dX5_tryThing_82 (lv_at hl 0 rfl) ?_
          have eT : tB LT 0 a two = true := by show decide (a = 0 ∧ two = 0) = _; exact decide_eq_true ⟨by omega, by omega⟩
          have eR : tR LT 0 a two = hour LT := by unfold tR; rw [eT]; rfl
          exact rt_ze F hr hlk hW (by rw [eT]; rfl) ⟨by rw [eR]; exact hX_6, (fun z hz => by rw [ho_6 z (by omega)])⟩ dX5_tryThing_84
  · skip
    refine lv_tableIn (tgt := 85) hx hb dX5_tryThing_13 (by decide) (by decide) rfl (by decide) ?_
    refine lv_iload_n hx hb dX5_tryThing_85 rfl (lv_at hl 4 rfl) ?_
    refine nv_zne (tgt := 105) F (by omega) dX5_tryThing_86 (by decide) (fun c_7 => ?_) (fun c_7 => ?_)
    · skip
      refine lv_iconst (v := nI 0) hx hb dX5_tryThing_105 (by decide) ?_
      refine lv_istore (lv' := [(7, .int (nI 0)), (5, .int (nI (two % 10))), (4, .int (nI (two / 10))), (0, .ref (xa cx 136)), (1, .int (nI 1)), (2, .int (nI a)), (3, .int (nI two))]) hx hb dX5_tryThing_106 hl (by decide) rfl (fun ls hl => ?_)
      refine lv_aload_n hx hb dX5_tryThing_108 rfl (lv_at hl 3 rfl) ?_
      refine nv_get F hW (by omega) g136 rfl iX5 2 (by decide) tw_631 rfl dX5_tryThing_109 ?_
      refine lv_bipush (v := nI 37) hx hb dX5_tryThing_112 (by decide) ?_
      refine lv_iload hx hb dX5_tryThing_114 (lv_at hl 0 rfl) ?_
      refine nv_zeq (tgt := 124) F (by decide) dX5_tryThing_116 (by decide) (fun c_8 => ?_) (fun c_8 => ?_)
      · skip
        refine lv_iconst (v := nI 0) hx hb dX5_tryThing_124 (by decide) ?_
        refine nv_add F dX5_tryThing_125 ?_
        refine lv_dup2_11 hx hb dX5_tryThing_126 rfl rfl ?_
        refine nv_ialdN (x := ((fn (37 + 0)))) F hW (by omega) g138 (by omega) (by decide) rfl dX5_tryThing_127 ?_
        refine lv_iload hx hb dX5_tryThing_128 (lv_at hl 0 rfl) ?_
        refine nv_zeq (tgt := 138) F (by decide) dX5_tryThing_130 (by decide) (fun c_9 => ?_) (fun c_9 => ?_)
        · skip
          refine lv_iconst (v := nI 0) hx hb dX5_tryThing_138 (by decide) ?_
          refine lv_iadd hx hb dX5_tryThing_139 ?_
          refine nv_top (y := ((fn (37 + 0)))) (i_a0 _) ?_
          refine nv_iastN F hW (by omega) g138 (by omega) (by decide) dX5_tryThing_140 (fun H locs hW => ?_)
          obtain ⟨μ10, eμ10⟩ : ∃ zz9 : ME, zz9 = va_up μ 138 (.inl (xT cx 0, 62, .inl (upd fn (37 + 0) ((fn (37 + 0)))))) := ⟨_, rfl⟩
          have hW : St cx s μ10 H locs := by rw [eμ10]; exact hW
          have h136_10 := (congrFun eμ10 136).trans ((va_up_ne _ _ (by omega)).trans g136)
          have h137_10 := (congrFun eμ10 137).trans ((va_up_ne _ _ (by omega)).trans g137)
          have h138_10 : μ10 138 = .inl (xT cx 0, 62, .inl (upd fn (37 + 0) ((fn (37 + 0))))) := by rw [eμ10, va_up_self]
          have h139_10 := (congrFun eμ10 139).trans ((va_up_ne _ _ (by omega)).trans g139)
          have h140_10 := (congrFun eμ10 140).trans ((va_up_ne _ _ (by omega)).trans g140)
          have h141_10 := (congrFun eμ10 141).trans ((va_up_ne _ _ (by omega)).trans g141)
          have h142_10 := (congrFun eμ10 142).trans ((va_up_ne _ _ (by omega)).trans g142)
          have h143_10 := (congrFun eμ10 143).trans ((va_up_ne _ _ (by omega)).trans g143)
          have h144_10 := (congrFun eμ10 144).trans ((va_up_ne _ _ (by omega)).trans g144)
          have h145_10 := (congrFun eμ10 145).trans ((va_up_ne _ _ (by omega)).trans g145)
          have h146_10 := (congrFun eμ10 146).trans ((va_up_ne _ _ (by omega)).trans g146)
          have h147_10 := (congrFun eμ10 147).trans ((va_up_ne _ _ (by omega)).trans g147)
          have h148_10 := (congrFun eμ10 148).trans ((va_up_ne _ _ (by omega)).trans g148)
          have hX_t10 : modX cx μ10 S (fun fn => lv fn 31 LT) := modX_138 hX hn6 g138 eμ10 (fun z hz => upd_ne (by omega)) (lv_same hTr rfl)
          obtain ⟨rh_t10, nx_t10, f1_t10, fn_t10, frd_t10, ft_t10, fo_t10, fa_t10, frw_t10, fh_t10, fu_t10, fb_t10, fz_t10, fkp_t10, g136_t10, g137_t10, g138_t10, g139_t10, g140_t10, g141_t10, g142_t10, g143_t10, g144_t10, g145_t10, g146_t10, g147_t10, g148_t10, hg_t10, hv_t10, ht_t10, hnx_t10, hrw_t10, hse_t10, hkp_t10, hTr_t10⟩ := id hX_t10
          have hs_t10 : shp LT (AL S) := hs
          have hkT_t10 := hkT
          have hn_t10 : Ln LT = Ln (AL S) := hs_t10.1
          have hV0_t10 := modX_V0 hX_t10
          have hV1_t10 := modX_V1 hX_t10 hs_t10
          refine lv_iload hx hb dX5_tryThing_141 (lv_at hl 0 rfl) ?_
          have eT : tB LT 1 a two = false := by show (decide (a = 0) && canA LT (two / 10) (two % 10)) = _; first | (rw [decide_eq_false (by omega)]; rfl) | (rw [show canA LT (two / 10) (two % 10) = false by assumption, Bool.and_false])
          have eR : tR LT 1 a two = LT := by unfold tR; rw [eT]; rfl
          exact rt_ze F hr hlk hW (by rw [eT]; rfl) ⟨by rw [eR]; exact hX_t10, (fun z hz => by rw [eμ10, va_up_ne _ _ (by omega)])⟩ dX5_tryThing_143
        · skip
          exact absurd c_9 (by decide)
      · skip
        exact absurd c_8 (by decide)
    · skip
      refine lv_aload_n hx hb dX5_tryThing_89 rfl (lv_at hl 2 rfl) ?_
      refine lv_iconst (v := nI 1) hx hb dX5_tryThing_90 (by decide) ?_
      refine lv_iload hx hb dX5_tryThing_91 (lv_at hl 1 rfl) ?_
      refine lv_iload hx hb dX5_tryThing_93 (lv_at hl 0 rfl) ?_
      refine cl_ip (cl_run (rest := []) F hW e_X5_119 (m_canBring hI l hN hV1 hkT (by omega) (by omega) (two / 10) (two % 10) (by omega) (by omega)) ⟨Nat.le_of_ble_eq_true rfl, Nat.le_of_ble_eq_true rfl⟩ (by omega) g136 rfl rfl rfl hl (Nat.le_of_ble_eq_true rfl) dX5_tryThing_95 ⟨Nat.zero_le _, Nat.zero_le _⟩) hW (fun H locs hW => ?_)
      refine nv_beq (tgt := 105) F dX5_tryThing_98 (by decide) (fun c_11 => ?_) (fun c_11 => ?_)
      · skip
        refine lv_iconst (v := nI 0) hx hb dX5_tryThing_105 (by decide) ?_
        refine lv_istore (lv' := [(7, .int (nI 0)), (5, .int (nI (two % 10))), (4, .int (nI (two / 10))), (0, .ref (xa cx 136)), (1, .int (nI 1)), (2, .int (nI a)), (3, .int (nI two))]) hx hb dX5_tryThing_106 hl (by decide) rfl (fun ls hl => ?_)
        refine lv_aload_n hx hb dX5_tryThing_108 rfl (lv_at hl 3 rfl) ?_
        refine nv_get F hW (by omega) g136 rfl iX5 2 (by decide) tw_631 rfl dX5_tryThing_109 ?_
        refine lv_bipush (v := nI 37) hx hb dX5_tryThing_112 (by decide) ?_
        refine lv_iload hx hb dX5_tryThing_114 (lv_at hl 0 rfl) ?_
        refine nv_zeq (tgt := 124) F (by decide) dX5_tryThing_116 (by decide) (fun c_12 => ?_) (fun c_12 => ?_)
        · skip
          refine lv_iconst (v := nI 0) hx hb dX5_tryThing_124 (by decide) ?_
          refine nv_add F dX5_tryThing_125 ?_
          refine lv_dup2_11 hx hb dX5_tryThing_126 rfl rfl ?_
          refine nv_ialdN (x := ((fn (37 + 0)))) F hW (by omega) g138 (by omega) (by decide) rfl dX5_tryThing_127 ?_
          refine lv_iload hx hb dX5_tryThing_128 (lv_at hl 0 rfl) ?_
          refine nv_zeq (tgt := 138) F (by decide) dX5_tryThing_130 (by decide) (fun c_13 => ?_) (fun c_13 => ?_)
          · skip
            refine lv_iconst (v := nI 0) hx hb dX5_tryThing_138 (by decide) ?_
            refine lv_iadd hx hb dX5_tryThing_139 ?_
            refine nv_top (y := ((fn (37 + 0)))) (i_a0 _) ?_
            refine nv_iastN F hW (by omega) g138 (by omega) (by decide) dX5_tryThing_140 (fun H locs hW => ?_)
            obtain ⟨μ14, eμ14⟩ : ∃ zz9 : ME, zz9 = va_up μ 138 (.inl (xT cx 0, 62, .inl (upd fn (37 + 0) ((fn (37 + 0)))))) := ⟨_, rfl⟩
            have hW : St cx s μ14 H locs := by rw [eμ14]; exact hW
            have h136_14 := (congrFun eμ14 136).trans ((va_up_ne _ _ (by omega)).trans g136)
            have h137_14 := (congrFun eμ14 137).trans ((va_up_ne _ _ (by omega)).trans g137)
            have h138_14 : μ14 138 = .inl (xT cx 0, 62, .inl (upd fn (37 + 0) ((fn (37 + 0))))) := by rw [eμ14, va_up_self]
            have h139_14 := (congrFun eμ14 139).trans ((va_up_ne _ _ (by omega)).trans g139)
            have h140_14 := (congrFun eμ14 140).trans ((va_up_ne _ _ (by omega)).trans g140)
            have h141_14 := (congrFun eμ14 141).trans ((va_up_ne _ _ (by omega)).trans g141)
            have h142_14 := (congrFun eμ14 142).trans ((va_up_ne _ _ (by omega)).trans g142)
            have h143_14 := (congrFun eμ14 143).trans ((va_up_ne _ _ (by omega)).trans g143)
            have h144_14 := (congrFun eμ14 144).trans ((va_up_ne _ _ (by omega)).trans g144)
            have h145_14 := (congrFun eμ14 145).trans ((va_up_ne _ _ (by omega)).trans g145)
            have h146_14 := (congrFun eμ14 146).trans ((va_up_ne _ _ (by omega)).trans g146)
            have h147_14 := (congrFun eμ14 147).trans ((va_up_ne _ _ (by omega)).trans g147)
            have h148_14 := (congrFun eμ14 148).trans ((va_up_ne _ _ (by omega)).trans g148)
            have hX_t14 : modX cx μ14 S (fun fn => lv fn 31 LT) := modX_138 hX hn6 g138 eμ14 (fun z hz => upd_ne (by omega)) (lv_same hTr rfl)
            obtain ⟨rh_t14, nx_t14, f1_t14, fn_t14, frd_t14, ft_t14, fo_t14, fa_t14, frw_t14, fh_t14, fu_t14, fb_t14, fz_t14, fkp_t14, g136_t14, g137_t14, g138_t14, g139_t14, g140_t14, g141_t14, g142_t14, g143_t14, g144_t14, g145_t14, g146_t14, g147_t14, g148_t14, hg_t14, hv_t14, ht_t14, hnx_t14, hrw_t14, hse_t14, hkp_t14, hTr_t14⟩ := id hX_t14
            have hs_t14 : shp LT (AL S) := hs
            have hkT_t14 := hkT
            have hn_t14 : Ln LT = Ln (AL S) := hs_t14.1
            have hV0_t14 := modX_V0 hX_t14
            have hV1_t14 := modX_V1 hX_t14 hs_t14
            refine lv_iload hx hb dX5_tryThing_141 (lv_at hl 0 rfl) ?_
            have eT : tB LT 1 a two = false := by show (decide (a = 0) && canA LT (two / 10) (two % 10)) = _; first | (rw [decide_eq_false (by omega)]; rfl) | (rw [show canA LT (two / 10) (two % 10) = false by assumption, Bool.and_false])
            have eR : tR LT 1 a two = LT := by unfold tR; rw [eT]; rfl
            exact rt_ze F hr hlk hW (by rw [eT]; rfl) ⟨by rw [eR]; exact hX_t14, (fun z hz => by rw [eμ14, va_up_ne _ _ (by omega)])⟩ dX5_tryThing_143
          · skip
            exact absurd c_13 (by decide)
        · skip
          exact absurd c_12 (by decide)
      · skip
        have hca := of_decide_eq_true c_11
        refine lv_iconst (v := nI 1) hx hb dX5_tryThing_101 (by decide) ?_
        refine lv_goto (tgt := 106) hx hb dX5_tryThing_102 (by decide) ?_
        refine lv_istore (lv' := [(7, .int (nI 1)), (5, .int (nI (two % 10))), (4, .int (nI (two / 10))), (0, .ref (xa cx 136)), (1, .int (nI 1)), (2, .int (nI a)), (3, .int (nI two))]) hx hb dX5_tryThing_106 hl (by decide) rfl (fun ls hl => ?_)
        refine lv_aload_n hx hb dX5_tryThing_108 rfl (lv_at hl 3 rfl) ?_
        refine nv_get F hW (by omega) g136 rfl iX5 2 (by decide) tw_631 rfl dX5_tryThing_109 ?_
        refine lv_bipush (v := nI 37) hx hb dX5_tryThing_112 (by decide) ?_
        refine lv_iload hx hb dX5_tryThing_114 (lv_at hl 0 rfl) ?_
        refine nv_zeq (tgt := 124) F (by decide) dX5_tryThing_116 (by decide) (fun c_15 => ?_) (fun c_15 => ?_)
        · skip
          exact absurd c_15 (by decide)
        · skip
          refine lv_iload hx hb dX5_tryThing_119 (lv_at hl 2 rfl) ?_
          refine lv_goto (tgt := 125) hx hb dX5_tryThing_121 (by decide) ?_
          refine nv_add F dX5_tryThing_125 ?_
          refine lv_dup2_11 hx hb dX5_tryThing_126 rfl rfl ?_
          refine nv_ialdN (x := ((nI (Ls LT (two / 10))))) F hW (by omega) g138 (by omega) (by decide) (hTr.1 _ (by omega)).2.1 dX5_tryThing_127 ?_
          refine lv_iload hx hb dX5_tryThing_128 (lv_at hl 0 rfl) ?_
          refine nv_zeq (tgt := 138) F (by decide) dX5_tryThing_130 (by decide) (fun c_16 => ?_) (fun c_16 => ?_)
          · skip
            exact absurd c_16 (by decide)
          · skip
            refine lv_iload hx hb dX5_tryThing_133 (lv_at hl 1 rfl) ?_
            refine lv_goto (tgt := 139) hx hb dX5_tryThing_135 (by decide) ?_
            refine nv_add F dX5_tryThing_139 ?_
            refine nv_iastN F hW (by omega) g138 (by omega) (by decide) dX5_tryThing_140 (fun H locs hW => ?_)
            obtain ⟨μ17, eμ17⟩ : ∃ zz9 : ME, zz9 = va_up μ 138 (.inl (xT cx 0, 62, .inl (upd fn (37 + (two / 10)) ((nI ((Ls LT (two / 10)) + (two % 10))))))) := ⟨_, rfl⟩
            have hW : St cx s μ17 H locs := by rw [eμ17]; exact hW
            have h136_17 := (congrFun eμ17 136).trans ((va_up_ne _ _ (by omega)).trans g136)
            have h137_17 := (congrFun eμ17 137).trans ((va_up_ne _ _ (by omega)).trans g137)
            have h138_17 : μ17 138 = .inl (xT cx 0, 62, .inl (upd fn (37 + (two / 10)) ((nI ((Ls LT (two / 10)) + (two % 10)))))) := by rw [eμ17, va_up_self]
            have h139_17 := (congrFun eμ17 139).trans ((va_up_ne _ _ (by omega)).trans g139)
            have h140_17 := (congrFun eμ17 140).trans ((va_up_ne _ _ (by omega)).trans g140)
            have h141_17 := (congrFun eμ17 141).trans ((va_up_ne _ _ (by omega)).trans g141)
            have h142_17 := (congrFun eμ17 142).trans ((va_up_ne _ _ (by omega)).trans g142)
            have h143_17 := (congrFun eμ17 143).trans ((va_up_ne _ _ (by omega)).trans g143)
            have h144_17 := (congrFun eμ17 144).trans ((va_up_ne _ _ (by omega)).trans g144)
            have h145_17 := (congrFun eμ17 145).trans ((va_up_ne _ _ (by omega)).trans g145)
            have h146_17 := (congrFun eμ17 146).trans ((va_up_ne _ _ (by omega)).trans g146)
            have h147_17 := (congrFun eμ17 147).trans ((va_up_ne _ _ (by omega)).trans g147)
            have h148_17 := (congrFun eμ17 148).trans ((va_up_ne _ _ (by omega)).trans g148)
            have hX_t17 : modX cx μ17 S (fun fn => lv fn 31 (addS LT (two / 10) (two % 10))) := modX_138 hX hn6 g138 eμ17 (fun z hz => upd_ne (by omega)) (by unfold addS; rw [if_pos (by assumption)]; exact lv_s (o := 31) hTr (by omega) (by omega))
            obtain ⟨rh_t17, nx_t17, f1_t17, fn_t17, frd_t17, ft_t17, fo_t17, fa_t17, frw_t17, fh_t17, fu_t17, fb_t17, fz_t17, fkp_t17, g136_t17, g137_t17, g138_t17, g139_t17, g140_t17, g141_t17, g142_t17, g143_t17, g144_t17, g145_t17, g146_t17, g147_t17, g148_t17, hg_t17, hv_t17, ht_t17, hnx_t17, hrw_t17, hse_t17, hkp_t17, hTr_t17⟩ := id hX_t17
            have hs_t17 : shp (addS LT (two / 10) (two % 10)) (AL S) := shp_tr shp_addS hs
            have hkT_t17 := lok_addS hkT (two / 10) (two % 10)
            have hn_t17 : Ln (addS LT (two / 10) (two % 10)) = Ln (AL S) := hs_t17.1
            have hV0_t17 := modX_V0 hX_t17
            have hV1_t17 := modX_V1 hX_t17 hs_t17
            refine lv_iload hx hb dX5_tryThing_141 (lv_at hl 0 rfl) ?_
            have eT : tB LT 1 a two = true := by show (decide (a = 0) && canA LT (two / 10) (two % 10)) = _; rw [decide_eq_true (by omega), show canA LT (two / 10) (two % 10) = true by assumption]; rfl
            have eR : tR LT 1 a two = addS LT (two / 10) (two % 10) := by unfold tR; rw [eT]; rfl
            exact rt_ze F hr hlk hW (by rw [eT]; rfl) ⟨by rw [eR]; exact hX_t17, (fun z hz => by rw [eμ17, va_up_ne _ _ (by omega)])⟩ dX5_tryThing_143
  · skip
    refine lv_tableIn (tgt := 144) hx hb dX5_tryThing_13 (by decide) (by decide) rfl (by decide) ?_
    refine lv_iload_n hx hb dX5_tryThing_144 rfl (lv_at hl 4 rfl) ?_
    refine nv_zne (tgt := 164) F (by omega) dX5_tryThing_145 (by decide) (fun c_18 => ?_) (fun c_18 => ?_)
    · skip
      refine lv_iconst (v := nI 0) hx hb dX5_tryThing_164 (by decide) ?_
      refine lv_istore (lv' := [(8, .int (nI 0)), (5, .int (nI (two % 10))), (4, .int (nI (two / 10))), (0, .ref (xa cx 136)), (1, .int (nI 2)), (2, .int (nI a)), (3, .int (nI two))]) hx hb dX5_tryThing_165 hl (by decide) rfl (fun ls hl => ?_)
      refine lv_aload_n hx hb dX5_tryThing_167 rfl (lv_at hl 3 rfl) ?_
      refine nv_get F hW (by omega) g136 rfl iX5 2 (by decide) tw_631 rfl dX5_tryThing_168 ?_
      refine lv_bipush (v := nI 37) hx hb dX5_tryThing_171 (by decide) ?_
      refine lv_iload hx hb dX5_tryThing_173 (lv_at hl 0 rfl) ?_
      refine nv_zeq (tgt := 183) F (by decide) dX5_tryThing_175 (by decide) (fun c_19 => ?_) (fun c_19 => ?_)
      · skip
        refine lv_iconst (v := nI 0) hx hb dX5_tryThing_183 (by decide) ?_
        refine nv_add F dX5_tryThing_184 ?_
        refine lv_dup2_11 hx hb dX5_tryThing_185 rfl rfl ?_
        refine nv_ialdN (x := ((fn (37 + 0)))) F hW (by omega) g138 (by omega) (by decide) rfl dX5_tryThing_186 ?_
        refine lv_iload hx hb dX5_tryThing_187 (lv_at hl 0 rfl) ?_
        refine nv_zeq (tgt := 197) F (by decide) dX5_tryThing_189 (by decide) (fun c_20 => ?_) (fun c_20 => ?_)
        · skip
          refine lv_iconst (v := nI 0) hx hb dX5_tryThing_197 (by decide) ?_
          refine lv_isub hx hb dX5_tryThing_198 ?_
          refine nv_top (y := ((fn (37 + 0)))) (i_s0 _) ?_
          refine nv_iastN F hW (by omega) g138 (by omega) (by decide) dX5_tryThing_199 (fun H locs hW => ?_)
          obtain ⟨μ21, eμ21⟩ : ∃ zz9 : ME, zz9 = va_up μ 138 (.inl (xT cx 0, 62, .inl (upd fn (37 + 0) ((fn (37 + 0)))))) := ⟨_, rfl⟩
          have hW : St cx s μ21 H locs := by rw [eμ21]; exact hW
          have h136_21 := (congrFun eμ21 136).trans ((va_up_ne _ _ (by omega)).trans g136)
          have h137_21 := (congrFun eμ21 137).trans ((va_up_ne _ _ (by omega)).trans g137)
          have h138_21 : μ21 138 = .inl (xT cx 0, 62, .inl (upd fn (37 + 0) ((fn (37 + 0))))) := by rw [eμ21, va_up_self]
          have h139_21 := (congrFun eμ21 139).trans ((va_up_ne _ _ (by omega)).trans g139)
          have h140_21 := (congrFun eμ21 140).trans ((va_up_ne _ _ (by omega)).trans g140)
          have h141_21 := (congrFun eμ21 141).trans ((va_up_ne _ _ (by omega)).trans g141)
          have h142_21 := (congrFun eμ21 142).trans ((va_up_ne _ _ (by omega)).trans g142)
          have h143_21 := (congrFun eμ21 143).trans ((va_up_ne _ _ (by omega)).trans g143)
          have h144_21 := (congrFun eμ21 144).trans ((va_up_ne _ _ (by omega)).trans g144)
          have h145_21 := (congrFun eμ21 145).trans ((va_up_ne _ _ (by omega)).trans g145)
          have h146_21 := (congrFun eμ21 146).trans ((va_up_ne _ _ (by omega)).trans g146)
          have h147_21 := (congrFun eμ21 147).trans ((va_up_ne _ _ (by omega)).trans g147)
          have h148_21 := (congrFun eμ21 148).trans ((va_up_ne _ _ (by omega)).trans g148)
          have hX_t21 : modX cx μ21 S (fun fn => lv fn 31 LT) := modX_138 hX hn6 g138 eμ21 (fun z hz => upd_ne (by omega)) (lv_same hTr rfl)
          obtain ⟨rh_t21, nx_t21, f1_t21, fn_t21, frd_t21, ft_t21, fo_t21, fa_t21, frw_t21, fh_t21, fu_t21, fb_t21, fz_t21, fkp_t21, g136_t21, g137_t21, g138_t21, g139_t21, g140_t21, g141_t21, g142_t21, g143_t21, g144_t21, g145_t21, g146_t21, g147_t21, g148_t21, hg_t21, hv_t21, ht_t21, hnx_t21, hrw_t21, hse_t21, hkp_t21, hTr_t21⟩ := id hX_t21
          have hs_t21 : shp LT (AL S) := hs
          have hkT_t21 := hkT
          have hn_t21 : Ln LT = Ln (AL S) := hs_t21.1
          have hV0_t21 := modX_V0 hX_t21
          have hV1_t21 := modX_V1 hX_t21 hs_t21
          refine lv_iload hx hb dX5_tryThing_200 (lv_at hl 0 rfl) ?_
          have eT : tB LT 2 a two = false := by show (decide (a = 0) && canS LT (two / 10) (two % 10)) = _; first | (rw [decide_eq_false (by omega)]; rfl) | (rw [show canS LT (two / 10) (two % 10) = false by assumption, Bool.and_false])
          have eR : tR LT 2 a two = LT := by unfold tR; rw [eT]; rfl
          exact rt_ze F hr hlk hW (by rw [eT]; rfl) ⟨by rw [eR]; exact hX_t21, (fun z hz => by rw [eμ21, va_up_ne _ _ (by omega)])⟩ dX5_tryThing_202
        · skip
          exact absurd c_20 (by decide)
      · skip
        exact absurd c_19 (by decide)
    · skip
      refine lv_aload_n hx hb dX5_tryThing_148 rfl (lv_at hl 2 rfl) ?_
      refine lv_iconst (v := nI 1) hx hb dX5_tryThing_149 (by decide) ?_
      refine lv_iload hx hb dX5_tryThing_150 (lv_at hl 1 rfl) ?_
      refine lv_iload hx hb dX5_tryThing_152 (lv_at hl 0 rfl) ?_
      refine cl_ip (cl_run (rest := []) F hW e_X5_123 (m_canTake hI l hN hV1 hkT (by omega) (by omega) (two / 10) (two % 10) (by omega) (by omega)) ⟨Nat.le_of_ble_eq_true rfl, Nat.le_of_ble_eq_true rfl⟩ (by omega) g136 rfl rfl rfl hl (Nat.le_of_ble_eq_true rfl) dX5_tryThing_154 ⟨Nat.zero_le _, Nat.zero_le _⟩) hW (fun H locs hW => ?_)
      refine nv_beq (tgt := 164) F dX5_tryThing_157 (by decide) (fun c_22 => ?_) (fun c_22 => ?_)
      · skip
        refine lv_iconst (v := nI 0) hx hb dX5_tryThing_164 (by decide) ?_
        refine lv_istore (lv' := [(8, .int (nI 0)), (5, .int (nI (two % 10))), (4, .int (nI (two / 10))), (0, .ref (xa cx 136)), (1, .int (nI 2)), (2, .int (nI a)), (3, .int (nI two))]) hx hb dX5_tryThing_165 hl (by decide) rfl (fun ls hl => ?_)
        refine lv_aload_n hx hb dX5_tryThing_167 rfl (lv_at hl 3 rfl) ?_
        refine nv_get F hW (by omega) g136 rfl iX5 2 (by decide) tw_631 rfl dX5_tryThing_168 ?_
        refine lv_bipush (v := nI 37) hx hb dX5_tryThing_171 (by decide) ?_
        refine lv_iload hx hb dX5_tryThing_173 (lv_at hl 0 rfl) ?_
        refine nv_zeq (tgt := 183) F (by decide) dX5_tryThing_175 (by decide) (fun c_23 => ?_) (fun c_23 => ?_)
        · skip
          refine lv_iconst (v := nI 0) hx hb dX5_tryThing_183 (by decide) ?_
          refine nv_add F dX5_tryThing_184 ?_
          refine lv_dup2_11 hx hb dX5_tryThing_185 rfl rfl ?_
          refine nv_ialdN (x := ((fn (37 + 0)))) F hW (by omega) g138 (by omega) (by decide) rfl dX5_tryThing_186 ?_
          refine lv_iload hx hb dX5_tryThing_187 (lv_at hl 0 rfl) ?_
          refine nv_zeq (tgt := 197) F (by decide) dX5_tryThing_189 (by decide) (fun c_24 => ?_) (fun c_24 => ?_)
          · skip
            refine lv_iconst (v := nI 0) hx hb dX5_tryThing_197 (by decide) ?_
            refine lv_isub hx hb dX5_tryThing_198 ?_
            refine nv_top (y := ((fn (37 + 0)))) (i_s0 _) ?_
            refine nv_iastN F hW (by omega) g138 (by omega) (by decide) dX5_tryThing_199 (fun H locs hW => ?_)
            obtain ⟨μ25, eμ25⟩ : ∃ zz9 : ME, zz9 = va_up μ 138 (.inl (xT cx 0, 62, .inl (upd fn (37 + 0) ((fn (37 + 0)))))) := ⟨_, rfl⟩
            have hW : St cx s μ25 H locs := by rw [eμ25]; exact hW
            have h136_25 := (congrFun eμ25 136).trans ((va_up_ne _ _ (by omega)).trans g136)
            have h137_25 := (congrFun eμ25 137).trans ((va_up_ne _ _ (by omega)).trans g137)
            have h138_25 : μ25 138 = .inl (xT cx 0, 62, .inl (upd fn (37 + 0) ((fn (37 + 0))))) := by rw [eμ25, va_up_self]
            have h139_25 := (congrFun eμ25 139).trans ((va_up_ne _ _ (by omega)).trans g139)
            have h140_25 := (congrFun eμ25 140).trans ((va_up_ne _ _ (by omega)).trans g140)
            have h141_25 := (congrFun eμ25 141).trans ((va_up_ne _ _ (by omega)).trans g141)
            have h142_25 := (congrFun eμ25 142).trans ((va_up_ne _ _ (by omega)).trans g142)
            have h143_25 := (congrFun eμ25 143).trans ((va_up_ne _ _ (by omega)).trans g143)
            have h144_25 := (congrFun eμ25 144).trans ((va_up_ne _ _ (by omega)).trans g144)
            have h145_25 := (congrFun eμ25 145).trans ((va_up_ne _ _ (by omega)).trans g145)
            have h146_25 := (congrFun eμ25 146).trans ((va_up_ne _ _ (by omega)).trans g146)
            have h147_25 := (congrFun eμ25 147).trans ((va_up_ne _ _ (by omega)).trans g147)
            have h148_25 := (congrFun eμ25 148).trans ((va_up_ne _ _ (by omega)).trans g148)
            have hX_t25 : modX cx μ25 S (fun fn => lv fn 31 LT) := modX_138 hX hn6 g138 eμ25 (fun z hz => upd_ne (by omega)) (lv_same hTr rfl)
            obtain ⟨rh_t25, nx_t25, f1_t25, fn_t25, frd_t25, ft_t25, fo_t25, fa_t25, frw_t25, fh_t25, fu_t25, fb_t25, fz_t25, fkp_t25, g136_t25, g137_t25, g138_t25, g139_t25, g140_t25, g141_t25, g142_t25, g143_t25, g144_t25, g145_t25, g146_t25, g147_t25, g148_t25, hg_t25, hv_t25, ht_t25, hnx_t25, hrw_t25, hse_t25, hkp_t25, hTr_t25⟩ := id hX_t25
            have hs_t25 : shp LT (AL S) := hs
            have hkT_t25 := hkT
            have hn_t25 : Ln LT = Ln (AL S) := hs_t25.1
            have hV0_t25 := modX_V0 hX_t25
            have hV1_t25 := modX_V1 hX_t25 hs_t25
            refine lv_iload hx hb dX5_tryThing_200 (lv_at hl 0 rfl) ?_
            have eT : tB LT 2 a two = false := by show (decide (a = 0) && canS LT (two / 10) (two % 10)) = _; first | (rw [decide_eq_false (by omega)]; rfl) | (rw [show canS LT (two / 10) (two % 10) = false by assumption, Bool.and_false])
            have eR : tR LT 2 a two = LT := by unfold tR; rw [eT]; rfl
            exact rt_ze F hr hlk hW (by rw [eT]; rfl) ⟨by rw [eR]; exact hX_t25, (fun z hz => by rw [eμ25, va_up_ne _ _ (by omega)])⟩ dX5_tryThing_202
          · skip
            exact absurd c_24 (by decide)
        · skip
          exact absurd c_23 (by decide)
      · skip
        have hca := of_decide_eq_true c_22
        refine lv_iconst (v := nI 1) hx hb dX5_tryThing_160 (by decide) ?_
        refine lv_goto (tgt := 165) hx hb dX5_tryThing_161 (by decide) ?_
        refine lv_istore (lv' := [(8, .int (nI 1)), (5, .int (nI (two % 10))), (4, .int (nI (two / 10))), (0, .ref (xa cx 136)), (1, .int (nI 2)), (2, .int (nI a)), (3, .int (nI two))]) hx hb dX5_tryThing_165 hl (by decide) rfl (fun ls hl => ?_)
        refine lv_aload_n hx hb dX5_tryThing_167 rfl (lv_at hl 3 rfl) ?_
        refine nv_get F hW (by omega) g136 rfl iX5 2 (by decide) tw_631 rfl dX5_tryThing_168 ?_
        refine lv_bipush (v := nI 37) hx hb dX5_tryThing_171 (by decide) ?_
        refine lv_iload hx hb dX5_tryThing_173 (lv_at hl 0 rfl) ?_
        refine nv_zeq (tgt := 183) F (by decide) dX5_tryThing_175 (by decide) (fun c_26 => ?_) (fun c_26 => ?_)
        · skip
          exact absurd c_26 (by decide)
        · skip
          refine lv_iload hx hb dX5_tryThing_178 (lv_at hl 2 rfl) ?_
          refine lv_goto (tgt := 184) hx hb dX5_tryThing_180 (by decide) ?_
          refine nv_add F dX5_tryThing_184 ?_
          refine lv_dup2_11 hx hb dX5_tryThing_185 rfl rfl ?_
          refine nv_ialdN (x := ((nI (Ls LT (two / 10))))) F hW (by omega) g138 (by omega) (by decide) (hTr.1 _ (by omega)).2.1 dX5_tryThing_186 ?_
          refine lv_iload hx hb dX5_tryThing_187 (lv_at hl 0 rfl) ?_
          refine nv_zeq (tgt := 197) F (by decide) dX5_tryThing_189 (by decide) (fun c_27 => ?_) (fun c_27 => ?_)
          · skip
            exact absurd c_27 (by decide)
          · skip
            refine lv_iload hx hb dX5_tryThing_192 (lv_at hl 1 rfl) ?_
            refine lv_goto (tgt := 198) hx hb dX5_tryThing_194 (by decide) ?_
            refine nv_sub F hca.2.2 dX5_tryThing_198 ?_
            refine nv_iastN F hW (by omega) g138 (by omega) (by decide) dX5_tryThing_199 (fun H locs hW => ?_)
            obtain ⟨μ28, eμ28⟩ : ∃ zz9 : ME, zz9 = va_up μ 138 (.inl (xT cx 0, 62, .inl (upd fn (37 + (two / 10)) ((nI ((Ls LT (two / 10)) - (two % 10))))))) := ⟨_, rfl⟩
            have hW : St cx s μ28 H locs := by rw [eμ28]; exact hW
            have h136_28 := (congrFun eμ28 136).trans ((va_up_ne _ _ (by omega)).trans g136)
            have h137_28 := (congrFun eμ28 137).trans ((va_up_ne _ _ (by omega)).trans g137)
            have h138_28 : μ28 138 = .inl (xT cx 0, 62, .inl (upd fn (37 + (two / 10)) ((nI ((Ls LT (two / 10)) - (two % 10)))))) := by rw [eμ28, va_up_self]
            have h139_28 := (congrFun eμ28 139).trans ((va_up_ne _ _ (by omega)).trans g139)
            have h140_28 := (congrFun eμ28 140).trans ((va_up_ne _ _ (by omega)).trans g140)
            have h141_28 := (congrFun eμ28 141).trans ((va_up_ne _ _ (by omega)).trans g141)
            have h142_28 := (congrFun eμ28 142).trans ((va_up_ne _ _ (by omega)).trans g142)
            have h143_28 := (congrFun eμ28 143).trans ((va_up_ne _ _ (by omega)).trans g143)
            have h144_28 := (congrFun eμ28 144).trans ((va_up_ne _ _ (by omega)).trans g144)
            have h145_28 := (congrFun eμ28 145).trans ((va_up_ne _ _ (by omega)).trans g145)
            have h146_28 := (congrFun eμ28 146).trans ((va_up_ne _ _ (by omega)).trans g146)
            have h147_28 := (congrFun eμ28 147).trans ((va_up_ne _ _ (by omega)).trans g147)
            have h148_28 := (congrFun eμ28 148).trans ((va_up_ne _ _ (by omega)).trans g148)
            have hX_t28 : modX cx μ28 S (fun fn => lv fn 31 (subS LT (two / 10) (two % 10))) := modX_138 hX hn6 g138 eμ28 (fun z hz => upd_ne (by omega)) (by unfold subS; rw [if_pos (by assumption)]; exact lv_s (o := 31) hTr (by omega) (by omega))
            obtain ⟨rh_t28, nx_t28, f1_t28, fn_t28, frd_t28, ft_t28, fo_t28, fa_t28, frw_t28, fh_t28, fu_t28, fb_t28, fz_t28, fkp_t28, g136_t28, g137_t28, g138_t28, g139_t28, g140_t28, g141_t28, g142_t28, g143_t28, g144_t28, g145_t28, g146_t28, g147_t28, g148_t28, hg_t28, hv_t28, ht_t28, hnx_t28, hrw_t28, hse_t28, hkp_t28, hTr_t28⟩ := id hX_t28
            have hs_t28 : shp (subS LT (two / 10) (two % 10)) (AL S) := shp_tr shp_subS hs
            have hkT_t28 := lok_subS hkT (two / 10) (two % 10)
            have hn_t28 : Ln (subS LT (two / 10) (two % 10)) = Ln (AL S) := hs_t28.1
            have hV0_t28 := modX_V0 hX_t28
            have hV1_t28 := modX_V1 hX_t28 hs_t28
            refine lv_iload hx hb dX5_tryThing_200 (lv_at hl 0 rfl) ?_
            have eT : tB LT 2 a two = true := by show (decide (a = 0) && canS LT (two / 10) (two % 10)) = _; rw [decide_eq_true (by omega), show canS LT (two / 10) (two % 10) = true by assumption]; rfl
            have eR : tR LT 2 a two = subS LT (two / 10) (two % 10) := by unfold tR; rw [eT]; rfl
            exact rt_ze F hr hlk hW (by rw [eT]; rfl) ⟨by rw [eR]; exact hX_t28, (fun z hz => by rw [eμ28, va_up_ne _ _ (by omega)])⟩ dX5_tryThing_202
  · skip
    refine lv_tableIn (tgt := 203) hx hb dX5_tryThing_13 (by decide) (by decide) rfl (by decide) ?_
    refine lv_iload_n hx hb dX5_tryThing_203 rfl (lv_at hl 4 rfl) ?_
    refine nv_zne (tgt := 253) F (by omega) dX5_tryThing_204 (by decide) (fun c_29 => ?_) (fun c_29 => ?_)
    · skip
      refine lv_iconst (v := nI 0) hx hb dX5_tryThing_253 (by decide) ?_
      refine lv_istore (lv' := [(9, .int (nI 0)), (5, .int (nI (two % 10))), (4, .int (nI (two / 10))), (0, .ref (xa cx 136)), (1, .int (nI 3)), (2, .int (nI a)), (3, .int (nI two))]) hx hb dX5_tryThing_254 hl (by decide) rfl (fun ls hl => ?_)
      refine lv_iload hx hb dX5_tryThing_256 (lv_at hl 0 rfl) ?_
      refine nv_zeq (tgt := 273) F (by decide) dX5_tryThing_258 (by decide) (fun c_30 => ?_) (fun c_30 => ?_)
      · skip
        refine lv_iload hx hb dX5_tryThing_273 (lv_at hl 0 rfl) ?_
        have eT : tB LT 3 a two = false := by show (decide (a = 0) && canD LT (two / 10) (two % 10)) = _; first | (rw [decide_eq_false (by omega)]; rfl) | (rw [show canD LT (two / 10) (two % 10) = false from decide_eq_false (by omega), Bool.and_false])
        have eR : tR LT 3 a two = LT := by unfold tR; rw [eT]; rfl
        exact rt_ze F hr hlk hW (by rw [eT]; rfl) ⟨by rw [eR]; exact hX, off_rf⟩ dX5_tryThing_275
      · skip
        exact absurd c_30 (by decide)
    · skip
      refine lv_aload_n hx hb dX5_tryThing_207 rfl (lv_at hl 2 rfl) ?_
      refine lv_iload hx hb dX5_tryThing_208 (lv_at hl 1 rfl) ?_
      refine cl_ip (cl_run (rest := []) F hW e_X5_91 (m_isHouseN hI l hN hV0 hk (by omega) (by omega) (two / 10) (by omega)) ⟨Nat.le_of_ble_eq_true rfl, Nat.le_of_ble_eq_true rfl⟩ (by omega) g136 rfl rfl rfl hl (Nat.le_of_ble_eq_true rfl) dX5_tryThing_210 ⟨Nat.zero_le _, Nat.zero_le _⟩) hW (fun H locs hW => ?_)
      refine nv_beq (tgt := 253) F dX5_tryThing_213 (by decide) (fun c_31 => ?_) (fun c_31 => ?_)
      · skip
        have hd1 := of_decide_eq_false c_31
        refine lv_iconst (v := nI 0) hx hb dX5_tryThing_253 (by decide) ?_
        refine lv_istore (lv' := [(9, .int (nI 0)), (5, .int (nI (two % 10))), (4, .int (nI (two / 10))), (0, .ref (xa cx 136)), (1, .int (nI 3)), (2, .int (nI a)), (3, .int (nI two))]) hx hb dX5_tryThing_254 hl (by decide) rfl (fun ls hl => ?_)
        refine lv_iload hx hb dX5_tryThing_256 (lv_at hl 0 rfl) ?_
        refine nv_zeq (tgt := 273) F (by decide) dX5_tryThing_258 (by decide) (fun c_32 => ?_) (fun c_32 => ?_)
        · skip
          refine lv_iload hx hb dX5_tryThing_273 (lv_at hl 0 rfl) ?_
          have eT : tB LT 3 a two = false := by show (decide (a = 0) && canD LT (two / 10) (two % 10)) = _; first | (rw [decide_eq_false (by omega)]; rfl) | (rw [show canD LT (two / 10) (two % 10) = false from decide_eq_false (by omega), Bool.and_false])
          have eR : tR LT 3 a two = LT := by unfold tR; rw [eT]; rfl
          exact rt_ze F hr hlk hW (by rw [eT]; rfl) ⟨by rw [eR]; exact hX, off_rf⟩ dX5_tryThing_275
        · skip
          exact absurd c_32 (by decide)
      · skip
        have hd1 := of_decide_eq_true c_31
        refine lv_iload hx hb dX5_tryThing_216 (lv_at hl 0 rfl) ?_
        refine lv_iconst (v := nI 3) hx hb dX5_tryThing_218 (by decide) ?_
        refine nv_cge (tgt := 253) F (by omega) (by omega) dX5_tryThing_219 (by decide) (fun c_33 => ?_) (fun c_33 => ?_)
        · skip
          refine lv_iconst (v := nI 0) hx hb dX5_tryThing_253 (by decide) ?_
          refine lv_istore (lv' := [(9, .int (nI 0)), (5, .int (nI (two % 10))), (4, .int (nI (two / 10))), (0, .ref (xa cx 136)), (1, .int (nI 3)), (2, .int (nI a)), (3, .int (nI two))]) hx hb dX5_tryThing_254 hl (by decide) rfl (fun ls hl => ?_)
          refine lv_iload hx hb dX5_tryThing_256 (lv_at hl 0 rfl) ?_
          refine nv_zeq (tgt := 273) F (by decide) dX5_tryThing_258 (by decide) (fun c_34 => ?_) (fun c_34 => ?_)
          · skip
            refine lv_iload hx hb dX5_tryThing_273 (lv_at hl 0 rfl) ?_
            have eT : tB LT 3 a two = false := by show (decide (a = 0) && canD LT (two / 10) (two % 10)) = _; first | (rw [decide_eq_false (by omega)]; rfl) | (rw [show canD LT (two / 10) (two % 10) = false from decide_eq_false (by omega), Bool.and_false])
            have eR : tR LT 3 a two = LT := by unfold tR; rw [eT]; rfl
            exact rt_ze F hr hlk hW (by rw [eT]; rfl) ⟨by rw [eR]; exact hX, off_rf⟩ dX5_tryThing_275
          · skip
            exact absurd c_34 (by decide)
        · skip
          refine lv_aload_n hx hb dX5_tryThing_222 rfl (lv_at hl 2 rfl) ?_
          refine lv_iconst (v := nI 1) hx hb dX5_tryThing_223 (by decide) ?_
          refine lv_bipush (v := nI 12) hx hb dX5_tryThing_224 (by decide) ?_
          refine lv_aload_n hx hb dX5_tryThing_226 rfl (lv_at hl 2 rfl) ?_
          refine lv_iload hx hb dX5_tryThing_227 (lv_at hl 1 rfl) ?_
          refine cl_ip (cl_run (rest := [.int (nI 12), .int (nI 1), .ref (xa cx 136)]) F hW e_X5_91 (m_isHouseN hI l hN hV0 hk (by omega) (by omega) (two / 10) (by omega)) ⟨Nat.le_of_ble_eq_true rfl, Nat.le_of_ble_eq_true rfl⟩ (by omega) g136 rfl rfl rfl hl (Nat.le_of_ble_eq_true rfl) dX5_tryThing_229 ⟨Nat.zero_le _, Nat.zero_le _⟩) hW (fun H locs hW => ?_)
          refine nv_beq (tgt := 240) F dX5_tryThing_232 (by decide) (fun c_35 => ?_) (fun c_35 => ?_)
          · skip
            exact absurd ((show decide (two / 10 < Ln (AL S)) = true by assumption).symm.trans c_35) (by decide)
          · skip
            refine lv_iload hx hb dX5_tryThing_235 (lv_at hl 1 rfl) ?_
            refine lv_goto (tgt := 241) hx hb dX5_tryThing_237 (by decide) ?_
            refine cl_ip (cl_run (rest := []) F hW e_X5_80 (m_at12 hI l hN hV1 hkT (by omega) (by omega) (two / 10) (by omega)) ⟨Nat.le_of_ble_eq_true rfl, Nat.le_of_ble_eq_true rfl⟩ (by omega) g136 rfl rfl rfl hl (Nat.le_of_ble_eq_true rfl) dX5_tryThing_241 ⟨Nat.zero_le _, Nat.zero_le _⟩) hW (fun H locs hW => ?_)
            refine lv_iload hx hb dX5_tryThing_244 (lv_at hl 0 rfl) ?_
            refine nv_ceq (tgt := 253) F (by have := hkT.2.2.2.1 (two / 10) (by omega); omega) (by omega) dX5_tryThing_246 (by decide) (fun c_36 => ?_) (fun c_36 => ?_)
            · skip
              refine lv_iconst (v := nI 0) hx hb dX5_tryThing_253 (by decide) ?_
              refine lv_istore (lv' := [(9, .int (nI 0)), (5, .int (nI (two % 10))), (4, .int (nI (two / 10))), (0, .ref (xa cx 136)), (1, .int (nI 3)), (2, .int (nI a)), (3, .int (nI two))]) hx hb dX5_tryThing_254 hl (by decide) rfl (fun ls hl => ?_)
              refine lv_iload hx hb dX5_tryThing_256 (lv_at hl 0 rfl) ?_
              refine nv_zeq (tgt := 273) F (by decide) dX5_tryThing_258 (by decide) (fun c_37 => ?_) (fun c_37 => ?_)
              · skip
                refine lv_iload hx hb dX5_tryThing_273 (lv_at hl 0 rfl) ?_
                have eT : tB LT 3 a two = false := by show (decide (a = 0) && canD LT (two / 10) (two % 10)) = _; first | (rw [decide_eq_false (by omega)]; rfl) | (rw [show canD LT (two / 10) (two % 10) = false from decide_eq_false (by omega), Bool.and_false])
                have eR : tR LT 3 a two = LT := by unfold tR; rw [eT]; rfl
                exact rt_ze F hr hlk hW (by rw [eT]; rfl) ⟨by rw [eR]; exact hX, off_rf⟩ dX5_tryThing_275
              · skip
                exact absurd c_37 (by decide)
            · skip
              refine lv_iconst (v := nI 1) hx hb dX5_tryThing_249 (by decide) ?_
              refine lv_goto (tgt := 254) hx hb dX5_tryThing_250 (by decide) ?_
              refine lv_istore (lv' := [(9, .int (nI 1)), (5, .int (nI (two % 10))), (4, .int (nI (two / 10))), (0, .ref (xa cx 136)), (1, .int (nI 3)), (2, .int (nI a)), (3, .int (nI two))]) hx hb dX5_tryThing_254 hl (by decide) rfl (fun ls hl => ?_)
              refine lv_iload hx hb dX5_tryThing_256 (lv_at hl 0 rfl) ?_
              refine nv_zeq (tgt := 273) F (by decide) dX5_tryThing_258 (by decide) (fun c_38 => ?_) (fun c_38 => ?_)
              · skip
                exact absurd c_38 (by decide)
              · skip
                refine lv_aload_n hx hb dX5_tryThing_261 rfl (lv_at hl 3 rfl) ?_
                refine nv_get F hW (by omega) g136 rfl iX5 2 (by decide) tw_631 rfl dX5_tryThing_262 ?_
                refine lv_bipush (v := nI 43) hx hb dX5_tryThing_265 (by decide) ?_
                refine lv_iload hx hb dX5_tryThing_267 (lv_at hl 2 rfl) ?_
                refine nv_add F dX5_tryThing_269 ?_
                refine lv_iload hx hb dX5_tryThing_270 (lv_at hl 1 rfl) ?_
                refine nv_iastN F hW (by omega) g138 (by omega) (by decide) dX5_tryThing_272 (fun H locs hW => ?_)
                obtain ⟨μ39, eμ39⟩ : ∃ zz9 : ME, zz9 = va_up μ 138 (.inl (xT cx 0, 62, .inl (upd fn (43 + (two / 10)) ((nI (two % 10)))))) := ⟨_, rfl⟩
                have hW : St cx s μ39 H locs := by rw [eμ39]; exact hW
                have h136_39 := (congrFun eμ39 136).trans ((va_up_ne _ _ (by omega)).trans g136)
                have h137_39 := (congrFun eμ39 137).trans ((va_up_ne _ _ (by omega)).trans g137)
                have h138_39 : μ39 138 = .inl (xT cx 0, 62, .inl (upd fn (43 + (two / 10)) ((nI (two % 10))))) := by rw [eμ39, va_up_self]
                have h139_39 := (congrFun eμ39 139).trans ((va_up_ne _ _ (by omega)).trans g139)
                have h140_39 := (congrFun eμ39 140).trans ((va_up_ne _ _ (by omega)).trans g140)
                have h141_39 := (congrFun eμ39 141).trans ((va_up_ne _ _ (by omega)).trans g141)
                have h142_39 := (congrFun eμ39 142).trans ((va_up_ne _ _ (by omega)).trans g142)
                have h143_39 := (congrFun eμ39 143).trans ((va_up_ne _ _ (by omega)).trans g143)
                have h144_39 := (congrFun eμ39 144).trans ((va_up_ne _ _ (by omega)).trans g144)
                have h145_39 := (congrFun eμ39 145).trans ((va_up_ne _ _ (by omega)).trans g145)
                have h146_39 := (congrFun eμ39 146).trans ((va_up_ne _ _ (by omega)).trans g146)
                have h147_39 := (congrFun eμ39 147).trans ((va_up_ne _ _ (by omega)).trans g147)
                have h148_39 := (congrFun eμ39 148).trans ((va_up_ne _ _ (by omega)).trans g148)
                have hX_t39 : modX cx μ39 S (fun fn => lv fn 31 (setD LT (two / 10) (two % 10))) := modX_138 hX hn6 g138 eμ39 (fun z hz => upd_ne (by omega)) (by unfold setD; rw [if_pos (show canD LT (two / 10) (two % 10) = true from decide_eq_true ⟨by omega, by omega, by assumption⟩)]; exact lv_dd (o := 31) hTr (by omega) (by omega))
                obtain ⟨rh_t39, nx_t39, f1_t39, fn_t39, frd_t39, ft_t39, fo_t39, fa_t39, frw_t39, fh_t39, fu_t39, fb_t39, fz_t39, fkp_t39, g136_t39, g137_t39, g138_t39, g139_t39, g140_t39, g141_t39, g142_t39, g143_t39, g144_t39, g145_t39, g146_t39, g147_t39, g148_t39, hg_t39, hv_t39, ht_t39, hnx_t39, hrw_t39, hse_t39, hkp_t39, hTr_t39⟩ := id hX_t39
                have hs_t39 : shp (setD LT (two / 10) (two % 10)) (AL S) := shp_tr shp_setD hs
                have hkT_t39 := lok_setD hkT (two / 10) (two % 10)
                have hn_t39 : Ln (setD LT (two / 10) (two % 10)) = Ln (AL S) := hs_t39.1
                have hV0_t39 := modX_V0 hX_t39
                have hV1_t39 := modX_V1 hX_t39 hs_t39
                refine lv_iload hx hb dX5_tryThing_273 (lv_at hl 0 rfl) ?_
                have eT : tB LT 3 a two = true := by show (decide (a = 0) && canD LT (two / 10) (two % 10)) = _; rw [decide_eq_true (by omega)]; exact decide_eq_true ⟨by omega, by omega, by assumption⟩
                have eR : tR LT 3 a two = setD LT (two / 10) (two % 10) := by unfold tR; rw [eT]; rfl
                exact rt_ze F hr hlk hW (by rw [eT]; rfl) ⟨by rw [eR]; exact hX_t39, (fun z hz => by rw [eμ39, va_up_ne _ _ (by omega)])⟩ dX5_tryThing_275
  · skip
    refine lv_tableIn (tgt := 276) hx hb dX5_tryThing_13 (by decide) (by decide) rfl (by decide) ?_
    refine lv_iload_n hx hb dX5_tryThing_276 rfl (lv_at hl 4 rfl) ?_
    refine nv_zne (tgt := 323) F (by omega) dX5_tryThing_277 (by decide) (fun c_40 => ?_) (fun c_40 => ?_)
    · skip
      refine lv_iconst (v := nI 0) hx hb dX5_tryThing_323 (by decide) ?_
      refine lv_istore (lv' := [(10, .int (nI 0)), (5, .int (nI (two % 10))), (4, .int (nI (two / 10))), (0, .ref (xa cx 136)), (1, .int (nI 4)), (2, .int (nI a)), (3, .int (nI two))]) hx hb dX5_tryThing_324 hl (by decide) rfl (fun ls hl => ?_)
      refine lv_iload hx hb dX5_tryThing_326 (lv_at hl 0 rfl) ?_
      refine nv_zeq (tgt := 338) F (by decide) dX5_tryThing_328 (by decide) (fun c_41 => ?_) (fun c_41 => ?_)
      · skip
        refine lv_iload hx hb dX5_tryThing_338 (lv_at hl 0 rfl) ?_
        have eT : tB LT 4 a two = false := by show (decide (a = 0 ∧ two / 10 = 0) && canR LT (two % 10)) = _; first | (rw [decide_eq_false (by omega)]; rfl) | (unfold canR; rw [decide_eq_false (show ¬ two % 10 < Ln LT by omega)]; simp; done) | (unfold canR; rw [‹lst LT (two % 10) = true›]; simp)
        have eR : tR LT 4 a two = LT := by unfold tR; rw [eT]; rfl
        exact rt_ze F hr hlk hW (by rw [eT]; rfl) ⟨by rw [eR]; exact hX, off_rf⟩ dX5_tryThing_340
      · skip
        exact absurd c_41 (by decide)
    · skip
      refine lv_iload hx hb dX5_tryThing_280 (lv_at hl 1 rfl) ?_
      refine nv_zne (tgt := 323) F (by omega) dX5_tryThing_282 (by decide) (fun c_42 => ?_) (fun c_42 => ?_)
      · skip
        refine lv_iconst (v := nI 0) hx hb dX5_tryThing_323 (by decide) ?_
        refine lv_istore (lv' := [(10, .int (nI 0)), (5, .int (nI (two % 10))), (4, .int (nI (two / 10))), (0, .ref (xa cx 136)), (1, .int (nI 4)), (2, .int (nI a)), (3, .int (nI two))]) hx hb dX5_tryThing_324 hl (by decide) rfl (fun ls hl => ?_)
        refine lv_iload hx hb dX5_tryThing_326 (lv_at hl 0 rfl) ?_
        refine nv_zeq (tgt := 338) F (by decide) dX5_tryThing_328 (by decide) (fun c_43 => ?_) (fun c_43 => ?_)
        · skip
          refine lv_iload hx hb dX5_tryThing_338 (lv_at hl 0 rfl) ?_
          have eT : tB LT 4 a two = false := by show (decide (a = 0 ∧ two / 10 = 0) && canR LT (two % 10)) = _; first | (rw [decide_eq_false (by omega)]; rfl) | (unfold canR; rw [decide_eq_false (show ¬ two % 10 < Ln LT by omega)]; simp; done) | (unfold canR; rw [‹lst LT (two % 10) = true›]; simp)
          have eR : tR LT 4 a two = LT := by unfold tR; rw [eT]; rfl
          exact rt_ze F hr hlk hW (by rw [eT]; rfl) ⟨by rw [eR]; exact hX, off_rf⟩ dX5_tryThing_340
        · skip
          exact absurd c_43 (by decide)
      · skip
        refine lv_aload_n hx hb dX5_tryThing_285 rfl (lv_at hl 2 rfl) ?_
        refine lv_iload hx hb dX5_tryThing_286 (lv_at hl 0 rfl) ?_
        refine cl_ip (cl_run (rest := []) F hW e_X5_91 (m_isHouseN hI l hN hV0 hk (by omega) (by omega) (two % 10) (by omega)) ⟨Nat.le_of_ble_eq_true rfl, Nat.le_of_ble_eq_true rfl⟩ (by omega) g136 rfl rfl rfl hl (Nat.le_of_ble_eq_true rfl) dX5_tryThing_288 ⟨Nat.zero_le _, Nat.zero_le _⟩) hW (fun H locs hW => ?_)
        refine nv_beq (tgt := 323) F dX5_tryThing_291 (by decide) (fun c_44 => ?_) (fun c_44 => ?_)
        · skip
          have hd1 := of_decide_eq_false c_44
          refine lv_iconst (v := nI 0) hx hb dX5_tryThing_323 (by decide) ?_
          refine lv_istore (lv' := [(10, .int (nI 0)), (5, .int (nI (two % 10))), (4, .int (nI (two / 10))), (0, .ref (xa cx 136)), (1, .int (nI 4)), (2, .int (nI a)), (3, .int (nI two))]) hx hb dX5_tryThing_324 hl (by decide) rfl (fun ls hl => ?_)
          refine lv_iload hx hb dX5_tryThing_326 (lv_at hl 0 rfl) ?_
          refine nv_zeq (tgt := 338) F (by decide) dX5_tryThing_328 (by decide) (fun c_45 => ?_) (fun c_45 => ?_)
          · skip
            refine lv_iload hx hb dX5_tryThing_338 (lv_at hl 0 rfl) ?_
            have eT : tB LT 4 a two = false := by show (decide (a = 0 ∧ two / 10 = 0) && canR LT (two % 10)) = _; first | (rw [decide_eq_false (by omega)]; rfl) | (unfold canR; rw [decide_eq_false (show ¬ two % 10 < Ln LT by omega)]; simp; done) | (unfold canR; rw [‹lst LT (two % 10) = true›]; simp)
            have eR : tR LT 4 a two = LT := by unfold tR; rw [eT]; rfl
            exact rt_ze F hr hlk hW (by rw [eT]; rfl) ⟨by rw [eR]; exact hX, off_rf⟩ dX5_tryThing_340
          · skip
            exact absurd c_45 (by decide)
        · skip
          have hd1 := of_decide_eq_true c_44
          refine lv_aload_n hx hb dX5_tryThing_294 rfl (lv_at hl 2 rfl) ?_
          refine lv_iconst (v := nI 1) hx hb dX5_tryThing_295 (by decide) ?_
          refine lv_bipush (v := nI 18) hx hb dX5_tryThing_296 (by decide) ?_
          refine lv_aload_n hx hb dX5_tryThing_298 rfl (lv_at hl 2 rfl) ?_
          refine lv_iload hx hb dX5_tryThing_299 (lv_at hl 0 rfl) ?_
          refine cl_ip (cl_run (rest := [.int (nI 18), .int (nI 1), .ref (xa cx 136)]) F hW e_X5_91 (m_isHouseN hI l hN hV0 hk (by omega) (by omega) (two % 10) (by omega)) ⟨Nat.le_of_ble_eq_true rfl, Nat.le_of_ble_eq_true rfl⟩ (by omega) g136 rfl rfl rfl hl (Nat.le_of_ble_eq_true rfl) dX5_tryThing_301 ⟨Nat.zero_le _, Nat.zero_le _⟩) hW (fun H locs hW => ?_)
          refine nv_beq (tgt := 312) F dX5_tryThing_304 (by decide) (fun c_46 => ?_) (fun c_46 => ?_)
          · skip
            exact absurd ((show decide (two % 10 < Ln (AL S)) = true by assumption).symm.trans c_46) (by decide)
          · skip
            refine lv_iload hx hb dX5_tryThing_307 (lv_at hl 0 rfl) ?_
            refine lv_goto (tgt := 313) hx hb dX5_tryThing_309 (by decide) ?_
            refine cl_ip (cl_run (rest := []) F hW e_X5_80 (m_at18 hI l hN hV1 hkT (by omega) (by omega) (two % 10) (by omega)) ⟨Nat.le_of_ble_eq_true rfl, Nat.le_of_ble_eq_true rfl⟩ (by omega) g136 rfl rfl rfl hl (Nat.le_of_ble_eq_true rfl) dX5_tryThing_313 ⟨Nat.zero_le _, Nat.zero_le _⟩) hW (fun H locs hW => ?_)
            refine nv_bne (tgt := 323) F dX5_tryThing_316 (by decide) (fun c_47 => ?_) (fun c_47 => ?_)
            · skip
              refine lv_iconst (v := nI 0) hx hb dX5_tryThing_323 (by decide) ?_
              refine lv_istore (lv' := [(10, .int (nI 0)), (5, .int (nI (two % 10))), (4, .int (nI (two / 10))), (0, .ref (xa cx 136)), (1, .int (nI 4)), (2, .int (nI a)), (3, .int (nI two))]) hx hb dX5_tryThing_324 hl (by decide) rfl (fun ls hl => ?_)
              refine lv_iload hx hb dX5_tryThing_326 (lv_at hl 0 rfl) ?_
              refine nv_zeq (tgt := 338) F (by decide) dX5_tryThing_328 (by decide) (fun c_48 => ?_) (fun c_48 => ?_)
              · skip
                refine lv_iload hx hb dX5_tryThing_338 (lv_at hl 0 rfl) ?_
                have eT : tB LT 4 a two = false := by show (decide (a = 0 ∧ two / 10 = 0) && canR LT (two % 10)) = _; first | (rw [decide_eq_false (by omega)]; rfl) | (unfold canR; rw [decide_eq_false (show ¬ two % 10 < Ln LT by omega)]; simp; done) | (unfold canR; rw [‹lst LT (two % 10) = true›]; simp)
                have eR : tR LT 4 a two = LT := by unfold tR; rw [eT]; rfl
                exact rt_ze F hr hlk hW (by rw [eT]; rfl) ⟨by rw [eR]; exact hX, off_rf⟩ dX5_tryThing_340
              · skip
                exact absurd c_48 (by decide)
            · skip
              refine lv_iconst (v := nI 1) hx hb dX5_tryThing_319 (by decide) ?_
              refine lv_goto (tgt := 324) hx hb dX5_tryThing_320 (by decide) ?_
              refine lv_istore (lv' := [(10, .int (nI 1)), (5, .int (nI (two % 10))), (4, .int (nI (two / 10))), (0, .ref (xa cx 136)), (1, .int (nI 4)), (2, .int (nI a)), (3, .int (nI two))]) hx hb dX5_tryThing_324 hl (by decide) rfl (fun ls hl => ?_)
              refine lv_iload hx hb dX5_tryThing_326 (lv_at hl 0 rfl) ?_
              refine nv_zeq (tgt := 338) F (by decide) dX5_tryThing_328 (by decide) (fun c_49 => ?_) (fun c_49 => ?_)
              · skip
                exact absurd c_49 (by decide)
              · skip
                refine lv_aload_n hx hb dX5_tryThing_331 rfl (lv_at hl 3 rfl) ?_
                refine lv_iconst (v := nI 1) hx hb dX5_tryThing_332 (by decide) ?_
                refine lv_iload hx hb dX5_tryThing_333 (lv_at hl 1 rfl) ?_
                refine cl_v (cl_run (rest := []) F hW e_X5_128 (m_buildOn hI l hN hV1 hkT (by omega) (by omega) (two % 10) (by omega) (by unfold canR; rw [decide_eq_true (show two % 10 < Ln LT by omega), ‹lst LT (two % 10) = false›]; rfl)) ⟨Nat.le_of_ble_eq_true rfl, Nat.le_of_ble_eq_true rfl⟩ (by omega) g136 rfl rfl rfl hl (Nat.le_of_ble_eq_true rfl) dX5_tryThing_335 ⟨Nat.zero_le _, Nat.zero_le _⟩) hW (fun μ50 H locs q_50 hW => ?_)
                have hX_b := modX_lv1 hX hn6 q_50
                have ho_b := lvP_off q_50
                obtain ⟨rh_b, nx_b, f1_b, fn_b, frd_b, ft_b, fo_b, fa_b, frw_b, fh_b, fu_b, fb_b, fz_b, fkp_b, g136_b, g137_b, g138_b, g139_b, g140_b, g141_b, g142_b, g143_b, g144_b, g145_b, g146_b, g147_b, g148_b, hg_b, hv_b, ht_b, hnx_b, hrw_b, hse_b, hkp_b, hTr_b⟩ := id hX_b
                have hs_b : shp (raiseL LT (two % 10)) (AL S) := shp_tr shp_raiseL hs
                have hkT_b := lok_raiseL hkT (two % 10)
                have hn_b : Ln (raiseL LT (two % 10)) = Ln (AL S) := hs_b.1
                have hV0_b := modX_V0 hX_b
                have hV1_b := modX_V1 hX_b hs_b
                refine lv_iload hx hb dX5_tryThing_338 (lv_at hl 0 rfl) ?_
                have eT : tB LT 4 a two = true := by show (decide (a = 0 ∧ two / 10 = 0) && canR LT (two % 10)) = _; rw [decide_eq_true ⟨by omega, by omega⟩]; unfold canR; rw [decide_eq_true (show two % 10 < Ln LT by omega), ‹lst LT (two % 10) = false›]; rfl
                have eR : tR LT 4 a two = raiseL LT (two % 10) := by unfold tR; rw [eT]; rfl
                exact rt_ze F hr hlk hW (by rw [eT]; rfl) ⟨by rw [eR]; exact hX_b, (fun z hz => by rw [ho_b z (by omega)])⟩ dX5_tryThing_340
  · skip
    refine lv_tableIn (tgt := 341) hx hb dX5_tryThing_13 (by decide) (by decide) rfl (by decide) ?_
    refine lv_iload_n hx hb dX5_tryThing_341 rfl (lv_at hl 4 rfl) ?_
    refine nv_zne (tgt := 376) F (by omega) dX5_tryThing_342 (by decide) (fun c_51 => ?_) (fun c_51 => ?_)
    · skip
      refine lv_iconst (v := nI 0) hx hb dX5_tryThing_376 (by decide) ?_
      have eT : tB LT 5 a two = false := by show (decide (a = 0 ∧ two / 10 = 0) && lst LT (two % 10)) = _; first | (rw [decide_eq_false (by omega)]; rfl) | (unfold lst; rw [decide_eq_false (show ¬ two % 10 < Ln LT by omega)]; simp; done) | (rw [‹lst LT (two % 10) = false›]; simp)
      have eR : tR LT 5 a two = LT := by unfold tR; rw [eT]; rfl
      exact rt_ze F hr hlk hW (by rw [eT]; rfl) ⟨by rw [eR]; exact hX, off_rf⟩ dX5_tryThing_377
    · skip
      refine lv_iload hx hb dX5_tryThing_345 (lv_at hl 1 rfl) ?_
      refine nv_zne (tgt := 376) F (by omega) dX5_tryThing_347 (by decide) (fun c_52 => ?_) (fun c_52 => ?_)
      · skip
        refine lv_iconst (v := nI 0) hx hb dX5_tryThing_376 (by decide) ?_
        have eT : tB LT 5 a two = false := by show (decide (a = 0 ∧ two / 10 = 0) && lst LT (two % 10)) = _; first | (rw [decide_eq_false (by omega)]; rfl) | (unfold lst; rw [decide_eq_false (show ¬ two % 10 < Ln LT by omega)]; simp; done) | (rw [‹lst LT (two % 10) = false›]; simp)
        have eR : tR LT 5 a two = LT := by unfold tR; rw [eT]; rfl
        exact rt_ze F hr hlk hW (by rw [eT]; rfl) ⟨by rw [eR]; exact hX, off_rf⟩ dX5_tryThing_377
      · skip
        refine lv_aload_n hx hb dX5_tryThing_350 rfl (lv_at hl 2 rfl) ?_
        refine lv_iload hx hb dX5_tryThing_351 (lv_at hl 0 rfl) ?_
        refine cl_ip (cl_run (rest := []) F hW e_X5_91 (m_isHouseN hI l hN hV0 hk (by omega) (by omega) (two % 10) (by omega)) ⟨Nat.le_of_ble_eq_true rfl, Nat.le_of_ble_eq_true rfl⟩ (by omega) g136 rfl rfl rfl hl (Nat.le_of_ble_eq_true rfl) dX5_tryThing_353 ⟨Nat.zero_le _, Nat.zero_le _⟩) hW (fun H locs hW => ?_)
        refine nv_beq (tgt := 376) F dX5_tryThing_356 (by decide) (fun c_53 => ?_) (fun c_53 => ?_)
        · skip
          have hd1 := of_decide_eq_false c_53
          refine lv_iconst (v := nI 0) hx hb dX5_tryThing_376 (by decide) ?_
          have eT : tB LT 5 a two = false := by show (decide (a = 0 ∧ two / 10 = 0) && lst LT (two % 10)) = _; first | (rw [decide_eq_false (by omega)]; rfl) | (unfold lst; rw [decide_eq_false (show ¬ two % 10 < Ln LT by omega)]; simp; done) | (rw [‹lst LT (two % 10) = false›]; simp)
          have eR : tR LT 5 a two = LT := by unfold tR; rw [eT]; rfl
          exact rt_ze F hr hlk hW (by rw [eT]; rfl) ⟨by rw [eR]; exact hX, off_rf⟩ dX5_tryThing_377
        · skip
          have hd1 := of_decide_eq_true c_53
          refine lv_aload_n hx hb dX5_tryThing_359 rfl (lv_at hl 2 rfl) ?_
          refine lv_iconst (v := nI 1) hx hb dX5_tryThing_360 (by decide) ?_
          refine lv_bipush (v := nI 18) hx hb dX5_tryThing_361 (by decide) ?_
          refine lv_iload hx hb dX5_tryThing_363 (lv_at hl 0 rfl) ?_
          refine cl_ip (cl_run (rest := []) F hW e_X5_80 (m_at18 hI l hN hV1 hkT (by omega) (by omega) (two % 10) (by omega)) ⟨Nat.le_of_ble_eq_true rfl, Nat.le_of_ble_eq_true rfl⟩ (by omega) g136 rfl rfl rfl hl (Nat.le_of_ble_eq_true rfl) dX5_tryThing_365 ⟨Nat.zero_le _, Nat.zero_le _⟩) hW (fun H locs hW => ?_)
          refine lv_iconst (v := nI 1) hx hb dX5_tryThing_368 (by decide) ?_
          refine nv_b1ne (tgt := 376) F dX5_tryThing_369 (by decide) (fun c_54 => ?_) (fun c_54 => ?_)
          · skip
            refine lv_iconst (v := nI 0) hx hb dX5_tryThing_376 (by decide) ?_
            have eT : tB LT 5 a two = false := by show (decide (a = 0 ∧ two / 10 = 0) && lst LT (two % 10)) = _; first | (rw [decide_eq_false (by omega)]; rfl) | (unfold lst; rw [decide_eq_false (show ¬ two % 10 < Ln LT by omega)]; simp; done) | (rw [‹lst LT (two % 10) = false›]; simp)
            have eR : tR LT 5 a two = LT := by unfold tR; rw [eT]; rfl
            exact rt_ze F hr hlk hW (by rw [eT]; rfl) ⟨by rw [eR]; exact hX, off_rf⟩ dX5_tryThing_377
          · skip
            refine lv_iconst (v := nI 1) hx hb dX5_tryThing_372 (by decide) ?_
            refine lv_goto (tgt := 377) hx hb dX5_tryThing_373 (by decide) ?_
            have eT : tB LT 5 a two = true := by show (decide (a = 0 ∧ two / 10 = 0) && lst LT (two % 10)) = _; rw [decide_eq_true ⟨by omega, by omega⟩, ‹lst LT (two % 10) = true›]; rfl
            have eR : tR LT 5 a two = LT := by unfold tR; rw [eT]; rfl
            exact rt_ze F hr hlk hW (by rw [eT]; rfl) ⟨by rw [eR]; exact hX, off_rf⟩ dX5_tryThing_377
  · skip
    refine lv_tableIn (tgt := 378) hx hb dX5_tryThing_13 (by decide) (by decide) rfl (by decide) ?_
    refine lv_aload_n hx hb dX5_tryThing_378 rfl (lv_at hl 2 rfl) ?_
    refine lv_iload_n hx hb dX5_tryThing_379 rfl (lv_at hl 4 rfl) ?_
    refine cl_ip (cl_run (rest := []) F hW e_X5_91 (m_isHouseN hI l hN hV0 hk (by omega) (by omega) a (by omega)) ⟨Nat.le_of_ble_eq_true rfl, Nat.le_of_ble_eq_true rfl⟩ (by omega) g136 rfl rfl rfl hl (Nat.le_of_ble_eq_true rfl) dX5_tryThing_380 ⟨Nat.zero_le _, Nat.zero_le _⟩) hW (fun H locs hW => ?_)
    refine nv_beq (tgt := 402) F dX5_tryThing_383 (by decide) (fun c_55 => ?_) (fun c_55 => ?_)
    · skip
      have hd1 := of_decide_eq_false c_55
      refine lv_iconst (v := nI 0) hx hb dX5_tryThing_402 (by decide) ?_
      have eT : tB LT 6 a two = false := by show (decide (a < Ln LT) && decide (two ≤ Ll LT a)) = _; first | (rw [decide_eq_false (show ¬ a < Ln LT by omega)]; rfl) | (rw [decide_eq_false (show ¬ two ≤ Ll LT a by omega)]; simp)
      have eR : tR LT 6 a two = LT := by unfold tR; rw [eT]; rfl
      exact rt_ze F hr hlk hW (by rw [eT]; rfl) ⟨by rw [eR]; exact hX, off_rf⟩ dX5_tryThing_403
    · skip
      have hd1 := of_decide_eq_true c_55
      refine lv_aload_n hx hb dX5_tryThing_386 rfl (lv_at hl 2 rfl) ?_
      refine lv_iconst (v := nI 1) hx hb dX5_tryThing_387 (by decide) ?_
      refine lv_bipush (v := nI 24) hx hb dX5_tryThing_388 (by decide) ?_
      refine lv_iload_n hx hb dX5_tryThing_390 rfl (lv_at hl 4 rfl) ?_
      refine cl_ip (cl_run (rest := []) F hW e_X5_80 (m_at24 hI l hN hV1 hkT (by omega) (by omega) a (by omega)) ⟨Nat.le_of_ble_eq_true rfl, Nat.le_of_ble_eq_true rfl⟩ (by omega) g136 rfl rfl rfl hl (Nat.le_of_ble_eq_true rfl) dX5_tryThing_391 ⟨Nat.zero_le _, Nat.zero_le _⟩) hW (fun H locs hW => ?_)
      refine lv_iload_n hx hb dX5_tryThing_394 rfl (lv_at hl 5 rfl) ?_
      refine nv_clt (tgt := 402) F (by have := lok_l hkT a; omega) (by omega) dX5_tryThing_395 (by decide) (fun c_56 => ?_) (fun c_56 => ?_)
      · skip
        refine lv_iconst (v := nI 0) hx hb dX5_tryThing_402 (by decide) ?_
        have eT : tB LT 6 a two = false := by show (decide (a < Ln LT) && decide (two ≤ Ll LT a)) = _; first | (rw [decide_eq_false (show ¬ a < Ln LT by omega)]; rfl) | (rw [decide_eq_false (show ¬ two ≤ Ll LT a by omega)]; simp)
        have eR : tR LT 6 a two = LT := by unfold tR; rw [eT]; rfl
        exact rt_ze F hr hlk hW (by rw [eT]; rfl) ⟨by rw [eR]; exact hX, off_rf⟩ dX5_tryThing_403
      · skip
        refine lv_iconst (v := nI 1) hx hb dX5_tryThing_398 (by decide) ?_
        refine lv_goto (tgt := 403) hx hb dX5_tryThing_399 (by decide) ?_
        have eT : tB LT 6 a two = true := by show (decide (a < Ln LT) && decide (two ≤ Ll LT a)) = _; rw [decide_eq_true (show a < Ln LT by omega), decide_eq_true (by omega)]; rfl
        have eR : tR LT 6 a two = LT := by unfold tR; rw [eT]; rfl
        exact rt_ze F hr hlk hW (by rw [eT]; rfl) ⟨by rw [eR]; exact hX, off_rf⟩ dX5_tryThing_403
  · skip
    refine lv_tableOut (tgt := 404) hx hb dX5_tryThing_13 (by rw [nI_toInt (by omega)]; omega) (by decide) ?_
    refine lv_iconst (v := nI 0) hx hb dX5_tryThing_404 (by decide) ?_
    have eT : tB LT how a two = false := by unfold tB; rw [if_neg (by omega), if_neg (by omega), if_neg (by omega), if_neg (by omega), if_neg (by omega), if_neg (by omega), if_neg (by omega)]
    have eR : tR LT how a two = LT := by unfold tR; rw [eT]; rfl
    exact rt_ze F hr hlk hW (by rw [eT]; rfl) ⟨by rw [eR]; exact hX, off_rf⟩ dX5_tryThing_405

def fou (n r i : Nat) : Nat := r / 10 ^ (4 * (n - 1 - i)) % 10000
theorem fou_lt (n r i : Nat) : fou n r i < 10000 := Nat.mod_lt _ (by decide)
theorem fou_a {n r i : Nat} (hi : i < n) : fou n r i / 1000 = fig r (4 * n) (4 * i) := by
  unfold fou fig
  rw [show 4 * n - 1 - 4 * i = 4 * (n - 1 - i) + 3 by omega, Nat.pow_add, ← Nat.div_div_eq_div_mul]
  omega
theorem fou_b {n r i : Nat} (hi : i < n) : fou n r i / 100 % 10 = fig r (4 * n) (4 * i + 1) := by
  unfold fou fig
  rw [show 4 * n - 1 - (4 * i + 1) = 4 * (n - 1 - i) + 2 by omega, Nat.pow_add, ← Nat.div_div_eq_div_mul]
  omega
theorem fou_c {n r i : Nat} (hi : i < n) : fou n r i % 100 = 10 * fig r (4 * n) (4 * i + 2) + fig r (4 * n) (4 * i + 3) := by
  unfold fou fig
  rw [show 4 * n - 1 - (4 * i + 2) = 4 * (n - 1 - i) + 1 by omega, show 4 * n - 1 - (4 * i + 3) = 4 * (n - 1 - i) by omega, Nat.pow_add, ← Nat.div_div_eq_div_mul]
  omega
theorem dB_tB (L : LN) (r f p : Nat) : dB L r f p = tB L (fig r f p) (fig r f (p + 1)) (10 * fig r f (p + 2) + fig r f (p + 3)) := by
  have h2 := fig_lt r f (p + 2)
  have h3 := fig_lt r f (p + 3)
  unfold dB tB
  rw [show (10 * fig r f (p + 2) + fig r f (p + 3)) / 10 = fig r f (p + 2) by omega, show (10 * fig r f (p + 2) + fig r f (p + 3)) % 10 = fig r f (p + 3) by omega]
  split
  · apply decide_eq_decide.mpr
    omega
  · rfl
theorem dL_tL (L : LN) (r f p : Nat) : dL L r f p = tL L (fig r f p) (10 * fig r f (p + 2) + fig r f (p + 3)) := by
  have h2 := fig_lt r f (p + 2)
  have h3 := fig_lt r f (p + 3)
  unfold dL tL
  rw [show (10 * fig r f (p + 2) + fig r f (p + 3)) / 10 = fig r f (p + 2) by omega, show (10 * fig r f (p + 2) + fig r f (p + 3)) % 10 = fig r f (p + 3) by omega]
theorem shp_jL (L : LN) (n r i : Nat) : shp (jL L n r i) L := by
  induction i with
  | zero => exact shp_rf
  | succ i ih =>
    refine shp_tr ?_ ih
    show shp (dL (jL L n r i) r (4 * n) (4 * i)) (jL L n r i)
    rw [dL_tL]
    unfold tL
    split
    · exact shp_hour
    · split
      · exact shp_addS
      · split
        · exact shp_subS
        · split
          · exact shp_setD
          · split
            · exact shp_raiseL
            · exact shp_rf

set_option maxHeartbeats 4000000 in
set_option maxRecDepth 100000 in
theorem x_judge {cx : CX} (hI : xI cx) (l : Launch) {μ : ME} {S : AS} {B : Nat} {Tr : (Nat → Int32) → Prop} (hN : 149 ≤ xN cx) (hX : modX cx μ S Tr) (hA : aok S B) (hMo : mok S) (hB : B < 800000) (n0 : Int32) (x : Int64) : MT cx l yX5_judge cX5_judge 6 (some .int) 6 148 [.ref (xa cx 136), .int n0, .long (x)] μ (Ei cx (r_judge S n0 x) (fun μ1 => modX cx μ1 S (fun _ => True) ∧ off 136 13 μ μ1)) := by
  refine mt_of hI (by decide) (Nat.le_of_ble_eq_true rfl) ?_
  intro p e s m below meth c ls F hr hlk hW hl
  have hx := F.1.1
  have hb := F.1.2.1
  have hts := F.1.2.2.2.2
  obtain ⟨rh, nx, f1, fn, frd, ft, fo, fa, frw, fh, fu, fb, fz, fkp, g136, g137, g138, g139, g140, g141, g142, g143, g144, g145, g146, g147, g148, hg, hv, ht, hnx, hrw, hse, hkp, hTr⟩ := id hX
  have hk := hA.2.1
  have hn6 := hk.1
  have hk4 := hk.2.2.2.1
  have hU := lok_U hk
  have hV0 := modX_V0 hX
  have hl : lv_has ls 6 [(0, .ref (xa cx 136)), (1, .int n0), (2, .long (x))] := hl
  refine lv_iload_n hx hb dX5_judge_0 rfl (lv_at hl 1 rfl) ?_
  refine lv_i2l hx hb dX5_judge_1 rfl ?_
  refine lv_lconst (v := lN 1) hx hb dX5_judge_2 (by decide) ?_
  refine lv_ldc2 (v := lN 4) hx hb F.1.2.2.2.1 (hts _ tw_831) dX5_judge_3 ?_
  refine cl_ip (cl_runS (rest := []) F hW e_X5_49 (m_in hI l ((n0.toInt64)) ((lN 1)) ((lN 4))) ⟨Nat.le_of_ble_eq_true rfl, Nat.le_of_ble_eq_true rfl⟩ rfl rfl hl (Nat.le_of_ble_eq_true rfl) dX5_judge_6 ⟨Nat.zero_le _, Nat.zero_le _⟩) hW (fun H locs hW => ?_)
  refine nv_top (y := ((b2 (c14 n0)))) (congrArg b2 (inL_14 _)) ?_
  refine nv_beq (tgt := 28) F dX5_judge_9 (by decide) (fun c_1 => ?_) (fun c_1 => ?_)
  · skip
    refine lv_bipush (v := (-2)) hx hb dX5_judge_28 (by decide) ?_
    exact rt_ie F hr hlk hW (by unfold r_judge; first | (rw [‹c14 n0 = false›]; rfl) | (rw [nI_clamp (by omega), ‹figs x (4 * n) = false›, Bool.and_false]; rfl)) ⟨(modX_tr hX (fun _ _ => trivial)), off_rf⟩ dX5_judge_30
  · skip
    obtain ⟨n, hn1, hn4, rfl⟩ := c14_of c_1
    refine lv_lload_n hx hb dX5_judge_12 rfl (lv_at hl 2 rfl) ?_
    refine lv_lconst (v := lN 0) hx hb dX5_judge_13 (by decide) ?_
    refine lv_iconst (v := nI 4) hx hb dX5_judge_14 (by decide) ?_
    refine lv_iload_n hx hb dX5_judge_15 rfl (lv_at hl 1 rfl) ?_
    refine nv_mul F dX5_judge_16 ?_
    refine cl_lp (cl_runS (rest := [.long (lN 0), .long (x)]) F hW e_X5_145 (m_tenTo hI l (4 * n) (by omega)) ⟨Nat.le_of_ble_eq_true rfl, Nat.le_of_ble_eq_true rfl⟩ rfl rfl hl (Nat.le_of_ble_eq_true rfl) dX5_judge_17 ⟨Nat.zero_le _, Nat.zero_le _⟩) hW (fun H locs hW => ?_)
    refine lv_lconst (v := lN 1) hx hb dX5_judge_20 (by decide) ?_
    refine nw_lsub F (p10_pos _) dX5_judge_21 ?_
    refine cl_ip (cl_runS (rest := []) F hW e_X5_49 (m_in hI l ((x)) ((lN 0)) ((lN ((10 ^ (4 * n)) - 1)))) ⟨Nat.le_of_ble_eq_true rfl, Nat.le_of_ble_eq_true rfl⟩ rfl rfl hl (Nat.le_of_ble_eq_true rfl) dX5_judge_22 ⟨Nat.zero_le _, Nat.zero_le _⟩) hW (fun H locs hW => ?_)
    refine nv_top (y := ((b2 (figs x (4 * n))))) (congrArg b2 (inL_figs (by omega))) ?_
    refine nv_bne (tgt := 31) F dX5_judge_25 (by decide) (fun c_2 => ?_) (fun c_2 => ?_)
    · skip
      have hfg : figs x (4 * n) = true := c_2
      obtain ⟨r, hr9, rfl⟩ := figs_get hfg
      have hr3 : r < 10 ^ (4 * n) := by rw [figs_lN hr9] at hfg; exact of_decide_eq_true hfg
      refine lv_aload_n hx hb dX5_judge_31 rfl (lv_at hl 0 rfl) ?_
      refine cl_v (cl_run (rest := []) F hW e_X5_134 (m_layTrial hI l hN hX hA hMo hB) ⟨Nat.le_of_ble_eq_true rfl, Nat.le_of_ble_eq_true rfl⟩ (by omega) g136 rfl rfl rfl hl (Nat.le_of_ble_eq_true rfl) dX5_judge_32 ⟨Nat.zero_le _, Nat.zero_le _⟩) hW (fun μ3 H locs q_3 hW => ?_)
      obtain ⟨hX_3, ho_3⟩ := q_3
      obtain ⟨rh_3, nx_3, f1_3, fn_3, frd_3, ft_3, fo_3, fa_3, frw_3, fh_3, fu_3, fb_3, fz_3, fkp_3, g136_3, g137_3, g138_3, g139_3, g140_3, g141_3, g142_3, g143_3, g144_3, g145_3, g146_3, g147_3, g148_3, hg_3, hv_3, ht_3, hnx_3, hrw_3, hse_3, hkp_3, hTr_3⟩ := id hX_3
      have hs_3 : shp (AL S) (AL S) := shp_rf
      have hkT_3 := hk
      have hn_3 : Ln (AL S) = Ln (AL S) := hs_3.1
      have hV0_3 := modX_V0 hX_3
      have hV1_3 := modX_V1 hX_3 hs_3
      refine lv_iconst (v := nI 0) hx hb dX5_judge_35 (by decide) ?_
      refine lv_istore (lv' := [(4, .int (nI 0)), (0, .ref (xa cx 136)), (1, .int (nI n)), (2, .long (lN r))]) hx hb dX5_judge_36 hl (by decide) rfl (fun ls hl => ?_)
      have LOOP : ∀ (d i : Nat)  (μLOOP : ME) (H : Heap) (locs : List Loc) (ls : Array Slot), i + d = n → (modX cx μLOOP S (fun fn => lv fn 31 (jL (AL S) n r i))) → (off 136 13 μ μLOOP) → (jF (AL S) n r n 0 = jF (AL S) n r d i) → St cx s μLOOP H locs → lv_has ls 6 [(0, .ref (xa cx 136)), (1, .int (nI n)), (2, .long (lN r)), (4, .int (nI i))] → W p l e { frames := 6, cells := 0, slots := 0, locals := 148 } s m [.ref (xa cx 136), .int (nI n), .long (lN r)].toArray below meth c H locs 0 0 (MQ below (Ei cx (r_judge S (nI n) (lN r)) (fun μ1 => modX cx μ1 S (fun _ => True) ∧ off 136 13 μ μ1)) [.ref (xa cx 136), .int (nI n), .long (lN r)].toArray s 0 0 (xA cx)) (F0 m 38 ls []) := by
        intro d
        induction d with
        | zero =>
          intro i  μLOOP H locs ls hid hXiLOOP hoiLOOP hf hW hl
          obtain ⟨rh_i, nx_i, f1_i, fn_i, frd_i, ft_i, fo_i, fa_i, frw_i, fh_i, fu_i, fb_i, fz_i, fkp_i, g136_i, g137_i, g138_i, g139_i, g140_i, g141_i, g142_i, g143_i, g144_i, g145_i, g146_i, g147_i, g148_i, hg_i, hv_i, ht_i, hnx_i, hrw_i, hse_i, hkp_i, hTr_i⟩ := id hXiLOOP
          have hs_i : shp (jL (AL S) n r i) (AL S) := shp_jL _ _ _ _
          have hkT_i := lok_jL hk n r i
          have hn_i : Ln (jL (AL S) n r i) = Ln (AL S) := hs_i.1
          have hV0_i := modX_V0 hXiLOOP
          have hV1_i := modX_V1 hXiLOOP hs_i
          refine lv_iload hx hb dX5_judge_38 (lv_at hl 3 rfl) ?_
          refine lv_iload_n hx hb dX5_judge_40 rfl (lv_at hl 1 rfl) ?_
          refine nv_cge (tgt := 99) F (by omega) (by omega) dX5_judge_41 (by decide) (fun c_4 => ?_) (fun c_4 => ?_)
          · skip
            refine lv_bipush (v := (-9)) hx hb dX5_judge_99 (by decide) ?_
            exact rt_ie F hr hlk hW (by unfold r_judge; rw [c14_nI hn1 hn4, nI_clamp (by omega), hfg, lN_tn hr9]; show _ = jF (AL S) n r n 0; rw [hf]; first | rfl | (show _ = (if dB (jL (AL S) n r i) r (4 * n) (4 * i) = true then _ else _); rw [if_neg (by rw [hdB]; decide)])) ⟨(modX_tr hXiLOOP (fun _ _ => trivial)), (fun z hz => by rw [hoiLOOP z (by omega)])⟩ dX5_judge_101
          · skip
            exact absurd c_4 (by omega)
        | succ d ih =>
          intro i  μLOOP H locs ls hid hXiLOOP hoiLOOP hf hW hl
          obtain ⟨rh_i, nx_i, f1_i, fn_i, frd_i, ft_i, fo_i, fa_i, frw_i, fh_i, fu_i, fb_i, fz_i, fkp_i, g136_i, g137_i, g138_i, g139_i, g140_i, g141_i, g142_i, g143_i, g144_i, g145_i, g146_i, g147_i, g148_i, hg_i, hv_i, ht_i, hnx_i, hrw_i, hse_i, hkp_i, hTr_i⟩ := id hXiLOOP
          have hs_i : shp (jL (AL S) n r i) (AL S) := shp_jL _ _ _ _
          have hkT_i := lok_jL hk n r i
          have hn_i : Ln (jL (AL S) n r i) = Ln (AL S) := hs_i.1
          have hV0_i := modX_V0 hXiLOOP
          have hV1_i := modX_V1 hXiLOOP hs_i
          refine lv_iload hx hb dX5_judge_38 (lv_at hl 3 rfl) ?_
          refine lv_iload_n hx hb dX5_judge_40 rfl (lv_at hl 1 rfl) ?_
          refine nv_cge (tgt := 99) F (by omega) (by omega) dX5_judge_41 (by decide) (fun c_5 => ?_) (fun c_5 => ?_)
          · skip
            exact absurd c_5 (by omega)
          · skip
            refine lv_lload_n hx hb dX5_judge_44 rfl (lv_at hl 2 rfl) ?_
            refine lv_iconst (v := nI 4) hx hb dX5_judge_45 (by decide) ?_
            refine lv_iload_n hx hb dX5_judge_46 rfl (lv_at hl 1 rfl) ?_
            refine lv_iconst (v := nI 1) hx hb dX5_judge_47 (by decide) ?_
            refine nv_sub F (by omega) dX5_judge_48 ?_
            refine lv_iload hx hb dX5_judge_49 (lv_at hl 3 rfl) ?_
            refine nv_sub F (by omega) dX5_judge_51 ?_
            refine nv_mul F dX5_judge_52 ?_
            refine cl_lp (cl_runS (rest := [.long (lN r)]) F hW e_X5_145 (m_tenTo hI l (4 * ((n - 1) - i)) (by omega)) ⟨Nat.le_of_ble_eq_true rfl, Nat.le_of_ble_eq_true rfl⟩ rfl rfl hl (Nat.le_of_ble_eq_true rfl) dX5_judge_53 ⟨Nat.zero_le _, Nat.zero_le _⟩) hW (fun H locs hW => ?_)
            refine nw_ldiv F (by have := p10_16 (show 4 * n ≤ 16 by omega); omega) (p10_pos _) (by have := p10_16 (show 4 * (n - 1 - i) ≤ 16 by omega); omega) dX5_judge_56 ?_
            refine lv_ldc2 (v := lN 10000) hx hb F.1.2.2.2.1 (hts _ tw_864) dX5_judge_57 ?_
            refine nw_lrem F (Nat.lt_of_le_of_lt (Nat.div_le_self _ _) (by have := p10_16 (show 4 * n ≤ 16 by omega); omega)) (by omega) (by omega) dX5_judge_60 ?_
            refine nv_topl (y := ((lN (fou n r i)))) rfl ?_
            refine lv_l2i (v := nI (fou n r i)) hx hb dX5_judge_61 (lN_i _) ?_
            refine lv_istore (lv' := [(5, .int (nI (fou n r i))), (0, .ref (xa cx 136)), (1, .int (nI n)), (2, .long (lN r)), (4, .int (nI i))]) hx hb dX5_judge_62 hl (by decide) rfl (fun ls hl => ?_)
            refine lv_aload_n hx hb dX5_judge_64 rfl (lv_at hl 1 rfl) ?_
            refine lv_iload hx hb dX5_judge_65 (lv_at hl 0 rfl) ?_
            refine lv_sipush (v := nI 1000) hx hb dX5_judge_67 (by decide) ?_
            refine nv_div F (by have := fou_lt n r i; omega) (by omega) (by omega) dX5_judge_70 ?_
            refine nv_top (y := ((nI (fig r (4 * n) (4 * i))))) (congrArg nI (fou_a (by omega))) ?_
            refine lv_iload hx hb dX5_judge_71 (lv_at hl 0 rfl) ?_
            refine lv_bipush (v := nI 100) hx hb dX5_judge_73 (by decide) ?_
            refine nv_div F (by have := fou_lt n r i; omega) (by omega) (by omega) dX5_judge_75 ?_
            refine lv_bipush (v := nI 10) hx hb dX5_judge_76 (by decide) ?_
            refine nv_rem F (by have := fou_lt n r i; omega) (by omega) (by omega) dX5_judge_78 ?_
            refine nv_top (y := ((nI (fig r (4 * n) (4 * i + 1))))) (congrArg nI (fou_b (by omega))) ?_
            refine lv_iload hx hb dX5_judge_79 (lv_at hl 0 rfl) ?_
            refine lv_bipush (v := nI 100) hx hb dX5_judge_81 (by decide) ?_
            refine nv_rem F (by have := fou_lt n r i; omega) (by omega) (by omega) dX5_judge_83 ?_
            refine nv_top (y := ((nI (10 * fig r (4 * n) (4 * i + 2) + fig r (4 * n) (4 * i + 3))))) (congrArg nI (fou_c (by omega))) ?_
            refine cl_ie (cl_run (rest := []) F hW e_X5_170 (m_tryThing hI l hN hXiLOOP hA hMo hB hs_i hkT_i (by omega) (fig r (4 * n) (4 * i)) (fig r (4 * n) (4 * i + 1)) (10 * fig r (4 * n) (4 * i + 2) + fig r (4 * n) (4 * i + 3)) (fig_lt _ _ _) (fig_lt _ _ _) (by have := fig_lt r (4 * n) (4 * i + 2); have := fig_lt r (4 * n) (4 * i + 3); omega)) ⟨Nat.le_of_ble_eq_true rfl, Nat.le_of_ble_eq_true rfl⟩ (by omega) g136_i rfl rfl rfl hl (Nat.le_of_ble_eq_true rfl) dX5_judge_84 ⟨Nat.zero_le _, Nat.zero_le _⟩) hW (fun μ6 H locs q_6 hW => ?_)
            obtain ⟨hX_6, ho_6⟩ := q_6
            obtain ⟨rh_6, nx_6, f1_6, fn_6, frd_6, ft_6, fo_6, fa_6, frw_6, fh_6, fu_6, fb_6, fz_6, fkp_6, g136_6, g137_6, g138_6, g139_6, g140_6, g141_6, g142_6, g143_6, g144_6, g145_6, g146_6, g147_6, g148_6, hg_6, hv_6, ht_6, hnx_6, hrw_6, hse_6, hkp_6, hTr_6⟩ := id hX_6
            have hs_6 : shp (tR (jL (AL S) n r i) (fig r (4 * n) (4 * i)) (fig r (4 * n) (4 * i + 1)) (10 * fig r (4 * n) (4 * i + 2) + fig r (4 * n) (4 * i + 3))) (AL S) := shp_tr shp_tR hs_i
            have hkT_6 := lok_tR hkT_i (fig r (4 * n) (4 * i)) (fig r (4 * n) (4 * i + 1)) (10 * fig r (4 * n) (4 * i + 2) + fig r (4 * n) (4 * i + 3))
            have hn_6 : Ln (tR (jL (AL S) n r i) (fig r (4 * n) (4 * i)) (fig r (4 * n) (4 * i + 1)) (10 * fig r (4 * n) (4 * i + 2) + fig r (4 * n) (4 * i + 3))) = Ln (AL S) := hs_6.1
            have hV0_6 := modX_V0 hX_6
            have hV1_6 := modX_V1 hX_6 hs_6
            refine nv_bne (tgt := 93) F dX5_judge_87 (by decide) (fun c_7 => ?_) (fun c_7 => ?_)
            · skip
              have hdB : dB (jL (AL S) n r i) r (4 * n) (4 * i) = true := by rw [dB_tB]; exact c_7
              refine lv_iinc (v := ((nI (i + 1)))) (lv' := [(4, .int (nI (i + 1))), (5, .int (nI (fou n r i))), (0, .ref (xa cx 136)), (1, .int (nI n)), (2, .long (lN r))]) hx hb dX5_judge_93 hl (k := 4) rfl (nI_add _ _) (by decide) rfl (fun ls hl => ?_)
              refine lv_goto (tgt := 38) hx hb dX5_judge_96 (by decide) ?_
              have eJ : tR (jL (AL S) n r i) (fig r (4 * n) (4 * i)) (fig r (4 * n) (4 * i + 1)) (10 * fig r (4 * n) (4 * i + 2) + fig r (4 * n) (4 * i + 3)) = jL (AL S) n r (i + 1) := by show _ = dL (jL (AL S) n r i) r (4 * n) (4 * i); unfold tR; rw [← dB_tB, hdB, dL_tL]; rfl
              exact ih (i + 1) μ6 _ _ _ (by omega) (by rw [← eJ]; exact hX_6) (fun z hz => by rw [ho_6 z (by omega)]; rw [hoiLOOP z (by omega)]) (by rw [hf]; show (if dB (jL (AL S) n r i) r (4 * n) (4 * i) = true then _ else _) = _; rw [if_pos hdB]) hW (lv_sub hl [2, 3, 4, 0] rfl)
            · skip
              have hdB : dB (jL (AL S) n r i) r (4 * n) (4 * i) = false := by rw [dB_tB]; exact c_7
              refine lv_iload hx hb dX5_judge_90 (lv_at hl 4 rfl) ?_
              exact rt_ie F hr hlk hW (by unfold r_judge; rw [c14_nI hn1 hn4, nI_clamp (by omega), hfg, lN_tn hr9]; show _ = jF (AL S) n r n 0; rw [hf]; first | rfl | (show _ = (if dB (jL (AL S) n r i) r (4 * n) (4 * i) = true then _ else _); rw [if_neg (by rw [hdB]; decide)])) ⟨(modX_tr hX_6 (fun _ _ => trivial)), (fun z hz => by rw [ho_6 z (by omega)]; rw [hoiLOOP z (by omega)])⟩ dX5_judge_92
      exact LOOP n 0 μ3 _ _ _ (by omega) hX_3 (fun z hz => by rw [ho_3 z (by omega)]) rfl hW (lv_sub hl [1, 2, 3, 0] rfl)
    · skip
      refine lv_bipush (v := (-2)) hx hb dX5_judge_28 (by decide) ?_
      exact rt_ie F hr hlk hW (by unfold r_judge; first | (rw [‹c14 n0 = false›]; rfl) | (rw [nI_clamp (by omega), ‹figs x (4 * n) = false›, Bool.and_false]; rfl)) ⟨(modX_tr hX (fun _ _ => trivial)), off_rf⟩ dX5_judge_30
