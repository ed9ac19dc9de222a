theorem tR_3 {L : LN} {a b : Nat} (hb : b < 10) : tR L 3 0 (10 * a + b) = setD L a b := by
  unfold tR
  show (if (decide (0 = 0) && canD L ((10 * a + b) / 10) ((10 * a + b) % 10)) = true then setD L ((10 * a + b) / 10) ((10 * a + b) % 10) else L) = _
  rw [show (10 * a + b) / 10 = a by omega, show (10 * a + b) % 10 = b by omega, decide_eq_true rfl, Bool.true_and]
  split
  · rfl
  · rename_i h
    unfold setD
    rw [if_neg h]
theorem tR_2 {L : LN} {a b : Nat} (hb : b < 10) : tR L 2 0 (10 * a + b) = subS L a b := by
  unfold tR
  show (if (decide (0 = 0) && canS L ((10 * a + b) / 10) ((10 * a + b) % 10)) = true then subS L ((10 * a + b) / 10) ((10 * a + b) % 10) else L) = _
  rw [show (10 * a + b) / 10 = a by omega, show (10 * a + b) % 10 = b by omega, decide_eq_true rfl, Bool.true_and]
  split
  · rfl
  · rename_i h
    unfold subS
    rw [if_neg h]
theorem tR_1 {L : LN} {a b : Nat} (hb : b < 10) : tR L 1 0 (10 * a + b) = addS L a b := by
  unfold tR
  show (if (decide (0 = 0) && canA L ((10 * a + b) / 10) ((10 * a + b) % 10)) = true then addS L ((10 * a + b) / 10) ((10 * a + b) % 10) else L) = _
  rw [show (10 * a + b) / 10 = a by omega, show (10 * a + b) % 10 = b by omega, decide_eq_true rfl, Bool.true_and]
  split
  · rfl
  · rename_i h
    unfold addS
    rw [if_neg h]
theorem shp_plY {L : LN} {q : Nat} : shp (plY L q) L := by
  unfold plY
  split
  · exact shp_addS
  · split
    · exact shp_subS
    · split
      · exact shp_setD
      · exact shp_hour
theorem shp_yrL (L : LN) (x : Int64) (k : Nat) : shp (yrL L x k) L := by
  induction k with
  | zero => exact shp_rf
  | succ k ih => exact shp_tr shp_plY ih

theorem modX_mkD {cx : CX} {μ : ME} {S : AS} {Tr : (Nat → Int32) → Prop} {d : Int64} {rh : Int32} {nx : Nat} {f1 fn frd ft fo fa frw fh fu fb fz fkp : Nat → Int32} (g136 : μ 136 = .inr (5, [.int (nI (Ln (AL S))), .ref (xa cx 137), .ref (xa cx 138), .ref (xa cx 139), .int rh, .ref (xa cx 140), .int (nI (An S)), .ref (xa cx 141), .ref (xa cx 142), .int (nI (Az S)), .int (nI nx), .ref (xa cx 143), .int (nI (Ay S)), .ref (xa cx 144), .ref (xa cx 145), .ref (xa cx 146), .long (d), .ref (xa cx 147), .ref (xa cx 148)])) (g137 : μ 137 = .inl (xT cx 0, 6, .inl f1)) (g138 : μ 138 = .inl (xT cx 0, 62, .inl fn)) (g139 : μ 139 = .inl (xT cx 0, 24, .inl frd)) (g140 : μ 140 = .inl (xT cx 0, 64, .inl ft)) (g141 : μ 141 = .inl (xT cx 0, 6, .inl fo)) (g142 : μ 142 = .inl (xT cx 0, 6, .inl fa)) (g143 : μ 143 = .inl (xT cx 0, 434, .inl frw)) (g144 : μ 144 = .inl (xT cx 0, 6, .inl fh)) (g145 : μ 145 = .inl (xT cx 0, 6, .inl fu)) (g146 : μ 146 = .inl (xT cx 0, 6, .inl fb)) (g147 : μ 147 = .inl (xT cx 2, 2, .inl fz)) (g148 : μ 148 = .inl (xT cx 0, 62, .inl fkp)) (hg : ∀ i, i < Ln (AL S) → f1 i = nI (Lg (AL S) i)) (hv : lv fn 0 (AL S)) (ht : ∀ i, i < An S → ft i = nI (At S i)) (hnx : nx < 14) (hrw : ∀ k, k < Az S → lv frw (31 * ((nx + 13 - k) % 14)) (AP S k)) (hse : ∀ i, i < Ay S → fh i = nI (Ah S i) ∧ fu i = nI (Ao S i) ∧ fb i = nI (Ab S i)) (hkp : ∀ j, j < 2 → fz j = b2 ((Ak S).testBit j) ∧ ((Ak S).testBit j = true → lv fkp (31 * j) (AK S j))) (hTr : Tr fn) : modX cx μ (uD S d) Tr := ⟨rh, nx, f1, fn, frd, ft, fo, fa, frw, fh, fu, fb, fz, fkp, g136, g137, g138, g139, g140, g141, g142, g143, g144, g145, g146, g147, g148, hg, hv, ht, hnx, hrw, hse, hkp, hTr⟩

theorem modX_getD {cx : CX} {μ : ME} {S : AS} {Tr : (Nat → Int32) → Prop} {d : Int64} (h : modX cx μ (uD S d) Tr) : ∃ (rh : Int32) (nx : Nat) (f1 fn frd ft fo fa frw fh fu fb fz fkp : Nat → Int32), μ 136 = .inr (5, [.int (nI (Ln (AL S))), .ref (xa cx 137), .ref (xa cx 138), .ref (xa cx 139), .int rh, .ref (xa cx 140), .int (nI (An S)), .ref (xa cx 141), .ref (xa cx 142), .int (nI (Az S)), .int (nI nx), .ref (xa cx 143), .int (nI (Ay S)), .ref (xa cx 144), .ref (xa cx 145), .ref (xa cx 146), .long (d), .ref (xa cx 147), .ref (xa cx 148)]) ∧ μ 137 = .inl (xT cx 0, 6, .inl f1) ∧ μ 138 = .inl (xT cx 0, 62, .inl fn) ∧ μ 139 = .inl (xT cx 0, 24, .inl frd) ∧ μ 140 = .inl (xT cx 0, 64, .inl ft) ∧ μ 141 = .inl (xT cx 0, 6, .inl fo) ∧ μ 142 = .inl (xT cx 0, 6, .inl fa) ∧ μ 143 = .inl (xT cx 0, 434, .inl frw) ∧ μ 144 = .inl (xT cx 0, 6, .inl fh) ∧ μ 145 = .inl (xT cx 0, 6, .inl fu) ∧ μ 146 = .inl (xT cx 0, 6, .inl fb) ∧ μ 147 = .inl (xT cx 2, 2, .inl fz) ∧ μ 148 = .inl (xT cx 0, 62, .inl fkp) ∧ (∀ i, i < Ln (AL S) → f1 i = nI (Lg (AL S) i)) ∧ lv fn 0 (AL S) ∧ (∀ i, i < An S → ft i = nI (At S i)) ∧ nx < 14 ∧ (∀ k, k < Az S → lv frw (31 * ((nx + 13 - k) % 14)) (AP S k)) ∧ (∀ i, i < Ay S → fh i = nI (Ah S i) ∧ fu i = nI (Ao S i) ∧ fb i = nI (Ab S i)) ∧ (∀ j, j < 2 → fz j = b2 ((Ak S).testBit j) ∧ ((Ak S).testBit j = true → lv fkp (31 * j) (AK S j))) ∧ Tr fn := h

set_option maxHeartbeats 4000000 in
set_option maxRecDepth 100000 in
theorem x_years {cx : CX} (hI : xI cx) (l : Launch) {μ : ME} {S : AS} {B : Nat} {Tr : (Nat → Int32) → Prop} (hN : 149 ≤ xN cx) (hX : modX cx μ S Tr) (hA : aok S B) (hMo : mok S) (hB : B < 800000) (n : Int32) : MT cx l yX5_years cX5_years 5 (some .int) 6 148 [.ref (xa cx 136), .int n] μ (Ei cx (r_years S n) (fun μ1 => modX cx μ1 (s_years S n) (fun _ => True) ∧ off 136 13 μ μ1)) := by
  refine mt_of hI (by decide) (Nat.le_of_ble_eq_true rfl) ?_
  intro p e s m below meth c ls F hr hlk hW hl
  have hx := F.1.1
  have hb := F.1.2.1
  have hts := F.1.2.2.2.2
  obtain ⟨rh, nx, f1, fn, frd, ft, fo, fa, frw, fh, fu, fb, fz, fkp, g136, g137, g138, g139, g140, g141, g142, g143, g144, g145, g146, g147, g148, hg, hv, ht, hnx, hrw, hse, hkp, hTr⟩ := id hX
  have hk := hA.2.1
  have hn6 := hk.1
  have hk4 := hk.2.2.2.1
  have hU := lok_U hk
  have hV0 := modX_V0 hX
  have hl : lv_has ls 5 [(0, .ref (xa cx 136)), (1, .int n)] := hl
  refine lv_iload_n hx hb dX5_years_0 rfl (lv_at hl 1 rfl) ?_
  refine lv_i2l hx hb dX5_years_1 rfl ?_
  refine lv_lconst (v := lN 1) hx hb dX5_years_2 (by decide) ?_
  refine lv_ldc2 (v := lN 30) hx hb F.1.2.2.2.1 (hts _ tw_802) dX5_years_3 ?_
  refine cl_ip (cl_runS (rest := []) F hW e_X5_49 (m_in hI l ((n.toInt64)) ((lN 1)) ((lN 30))) ⟨Nat.le_of_ble_eq_true rfl, Nat.le_of_ble_eq_true rfl⟩ rfl rfl hl (Nat.le_of_ble_eq_true rfl) dX5_years_6 ⟨Nat.zero_le _, Nat.zero_le _⟩) hW (fun H locs hW => ?_)
  refine nv_top (y := ((b2 (c30 n)))) (congrArg b2 (inL_30 _)) ?_
  refine nv_bne (tgt := 15) F dX5_years_9 (by decide) (fun c_1 => ?_) (fun c_1 => ?_)
  · skip
    obtain ⟨mm, hm1, hm30, rfl⟩ := c30_of (show c30 n = true by assumption)
    refine lv_aload_n hx hb dX5_years_15 rfl (lv_at hl 0 rfl) ?_
    refine cl_v (cl_run (rest := []) F hW e_X5_134 (m_layTrial hI l hN hX hA hMo hB) ⟨Nat.le_of_ble_eq_true rfl, Nat.le_of_ble_eq_true rfl⟩ (by omega) g136 rfl rfl rfl hl (Nat.le_of_ble_eq_true rfl) dX5_years_16 ⟨Nat.zero_le _, Nat.zero_le _⟩) hW (fun μ2 H locs q_2 hW => ?_)
    obtain ⟨hX_2, ho_2⟩ := q_2
    obtain ⟨rh_2, nx_2, f1_2, fn_2, frd_2, ft_2, fo_2, fa_2, frw_2, fh_2, fu_2, fb_2, fz_2, fkp_2, g136_2, g137_2, g138_2, g139_2, g140_2, g141_2, g142_2, g143_2, g144_2, g145_2, g146_2, g147_2, g148_2, hg_2, hv_2, ht_2, hnx_2, hrw_2, hse_2, hkp_2, hTr_2⟩ := id hX_2
    have hs_2 : shp (AL S) (AL S) := shp_rf
    have hkT_2 := hk
    have hn_2 : Ln (AL S) = Ln (AL S) := hs_2.1
    have hV0_2 := modX_V0 hX_2
    have hV1_2 := modX_V1 hX_2 hs_2
    refine lv_iconst (v := nI 0) hx hb dX5_years_19 (by decide) ?_
    refine lv_istore_n (lv' := [(2, .int (nI 0)), (0, .ref (xa cx 136)), (1, .int (nI mm))]) hx hb dX5_years_20 rfl hl (by decide) rfl (fun ls hl => ?_)
    refine lv_iconst (v := nI 0) hx hb dX5_years_21 (by decide) ?_
    refine lv_istore_n (lv' := [(3, .int (nI 0)), (2, .int (nI 0)), (0, .ref (xa cx 136)), (1, .int (nI mm))]) hx hb dX5_years_22 rfl hl (by decide) rfl (fun ls hl => ?_)
    have LOOP : ∀ (d i : Nat)  (μ1 : ME) (H : Heap) (locs : List Loc) (ls : Array Slot), i + d = mm → (modX cx μ1 (uD S (sd (Ad S) i)) (fun fn => lv fn 31 (yrL (AL S) (Ad S) i))) → (off 136 13 μ μ1) → St cx s μ1 H locs → lv_has ls 5 [(0, .ref (xa cx 136)), (1, .int (nI mm)), (2, .int (nI (yrS (AL S) (Ad S) i))), (3, .int (nI i))] → W p l e { frames := 6, cells := 0, slots := 0, locals := 148 } s m [.ref (xa cx 136), .int (nI mm)].toArray below meth c H locs 0 0 (MQ below (Ei cx (r_years S (nI mm)) (fun μ1 => modX cx μ1 (s_years S (nI mm)) (fun _ => True) ∧ off 136 13 μ μ1)) [.ref (xa cx 136), .int (nI mm)].toArray s 0 0 (xA cx)) (F0 m 23 ls []) := by
      intro d
      induction d with
      | zero =>
        intro i  μ1 H locs ls hid hXi hoi hW hl
        obtain ⟨rh_i, nx_i, f1_i, fn_i, frd_i, ft_i, fo_i, fa_i, frw_i, fh_i, fu_i, fb_i, fz_i, fkp_i, g136_i, g137_i, g138_i, g139_i, g140_i, g141_i, g142_i, g143_i, g144_i, g145_i, g146_i, g147_i, g148_i, hg_i, hv_i, ht_i, hnx_i, hrw_i, hse_i, hkp_i, hTr_i⟩ := id (modX_getD hXi)
        have hs_i : shp (yrL (AL S) (Ad S) i) (AL S) := shp_yrL _ _ _
        have hkT_i := lok_yrL hk (Ad S) i
        have hn_i : Ln (yrL (AL S) (Ad S) i) = Ln (AL S) := hs_i.1
        have hV0_i := modX_V0 hXi
        have hV1_i := modX_V1 hXi hs_i
        refine lv_iload_n hx hb dX5_years_23 rfl (lv_at hl 3 rfl) ?_
        refine lv_iload_n hx hb dX5_years_24 rfl (lv_at hl 1 rfl) ?_
        refine nv_cge (tgt := 171) F (by omega) (by omega) dX5_years_25 (by decide) (fun c_3 => ?_) (fun c_3 => ?_)
        · skip
          refine lv_iload_n hx hb dX5_years_171 rfl (lv_at hl 2 rfl) ?_
          exact rt_ie F hr hlk hW (by unfold r_years; rw [c30_nI hm1 hm30, if_pos rfl, nI_clamp (by omega), show mm = i by omega]) ⟨by unfold s_years; rw [c30_nI hm1 hm30, if_pos rfl, nI_clamp (by omega), show mm = i by omega]; exact (modX_tr hXi (fun _ _ => trivial)), (fun z hz => by rw [hoi z (by omega)])⟩ dX5_years_172
        · skip
          exact absurd c_3 (by omega)
      | succ d ih =>
        intro i  μ1 H locs ls hid hXi hoi hW hl
        obtain ⟨rh_i, nx_i, f1_i, fn_i, frd_i, ft_i, fo_i, fa_i, frw_i, fh_i, fu_i, fb_i, fz_i, fkp_i, g136_i, g137_i, g138_i, g139_i, g140_i, g141_i, g142_i, g143_i, g144_i, g145_i, g146_i, g147_i, g148_i, hg_i, hv_i, ht_i, hnx_i, hrw_i, hse_i, hkp_i, hTr_i⟩ := id (modX_getD hXi)
        have hs_i : shp (yrL (AL S) (Ad S) i) (AL S) := shp_yrL _ _ _
        have hkT_i := lok_yrL hk (Ad S) i
        have hn_i : Ln (yrL (AL S) (Ad S) i) = Ln (AL S) := hs_i.1
        have hV0_i := modX_V0 hXi
        have hV1_i := modX_V1 hXi hs_i
        refine lv_iload_n hx hb dX5_years_23 rfl (lv_at hl 3 rfl) ?_
        refine lv_iload_n hx hb dX5_years_24 rfl (lv_at hl 1 rfl) ?_
        refine nv_cge (tgt := 171) F (by omega) (by omega) dX5_years_25 (by decide) (fun c_4 => ?_) (fun c_4 => ?_)
        · skip
          exact absurd c_4 (by omega)
        · skip
          refine lv_aload_n hx hb dX5_years_28 rfl (lv_at hl 0 rfl) ?_
          refine lv_aload_n hx hb dX5_years_29 rfl (lv_at hl 0 rfl) ?_
          refine nv_get F hW (by omega) g136_i rfl iX5 16 (by decide) tw_645 rfl dX5_years_30 ?_
          refine lv_ldc2 (v := lN 6364136223846793005) hx hb F.1.2.2.2.1 (hts _ tw_925) dX5_years_33 ?_
          refine lv_lmul hx hb dX5_years_36 ?_
          refine lv_ldc2 (v := lN 1442695040888963407) hx hb F.1.2.2.2.1 (hts _ tw_926) dX5_years_37 ?_
          obtain ⟨x9, ex9⟩ : ∃ z, z = sd (Ad S) (i + 1) := ⟨_, rfl⟩
          refine lv_ladd hx hb dX5_years_40 ?_
          refine nv_topl (y := ((x9))) ex9.symm ?_
          refine nv_put F hW (by omega) g136_i rfl iX5 tyX5 tyX5_ok nmX5 16 (by decide) tw_645 rfl rfl rfl (Nat.le_of_ble_eq_true rfl) dX5_years_41 (fun H locs hW => ?_)
          obtain ⟨μ5, eμ5⟩ : ∃ zz9 : ME, zz9 = va_up μ1 136 (.inr (5, [.int (nI (Ln (AL S))), .ref (xa cx 137), .ref (xa cx 138), .ref (xa cx 139), .int rh_i, .ref (xa cx 140), .int (nI (An S)), .ref (xa cx 141), .ref (xa cx 142), .int (nI (Az S)), .int (nI nx_i), .ref (xa cx 143), .int (nI (Ay S)), .ref (xa cx 144), .ref (xa cx 145), .ref (xa cx 146), .long (x9), .ref (xa cx 147), .ref (xa cx 148)])) := ⟨_, rfl⟩
          have hW : St cx s μ5 H locs := by rw [eμ5]; exact hW
          have h136_5 : μ5 136 = .inr (5, [.int (nI (Ln (AL S))), .ref (xa cx 137), .ref (xa cx 138), .ref (xa cx 139), .int rh_i, .ref (xa cx 140), .int (nI (An S)), .ref (xa cx 141), .ref (xa cx 142), .int (nI (Az S)), .int (nI nx_i), .ref (xa cx 143), .int (nI (Ay S)), .ref (xa cx 144), .ref (xa cx 145), .ref (xa cx 146), .long (x9), .ref (xa cx 147), .ref (xa cx 148)]) := by rw [eμ5, va_up_self]
          have h137_5 := (congrFun eμ5 137).trans ((va_up_ne _ _ (by omega)).trans g137_i)
          have h138_5 := (congrFun eμ5 138).trans ((va_up_ne _ _ (by omega)).trans g138_i)
          have h139_5 := (congrFun eμ5 139).trans ((va_up_ne _ _ (by omega)).trans g139_i)
          have h140_5 := (congrFun eμ5 140).trans ((va_up_ne _ _ (by omega)).trans g140_i)
          have h141_5 := (congrFun eμ5 141).trans ((va_up_ne _ _ (by omega)).trans g141_i)
          have h142_5 := (congrFun eμ5 142).trans ((va_up_ne _ _ (by omega)).trans g142_i)
          have h143_5 := (congrFun eμ5 143).trans ((va_up_ne _ _ (by omega)).trans g143_i)
          have h144_5 := (congrFun eμ5 144).trans ((va_up_ne _ _ (by omega)).trans g144_i)
          have h145_5 := (congrFun eμ5 145).trans ((va_up_ne _ _ (by omega)).trans g145_i)
          have h146_5 := (congrFun eμ5 146).trans ((va_up_ne _ _ (by omega)).trans g146_i)
          have h147_5 := (congrFun eμ5 147).trans ((va_up_ne _ _ (by omega)).trans g147_i)
          have h148_5 := (congrFun eμ5 148).trans ((va_up_ne _ _ (by omega)).trans g148_i)
          have hXp : modX cx μ5 (uD S x9) (fun fn => lv fn 31 (yrL (AL S) (Ad S) i)) := modX_mkD h136_5 h137_5 h138_5 h139_5 h140_5 h141_5 h142_5 h143_5 h144_5 h145_5 h146_5 h147_5 h148_5 hg_i hv_i ht_i hnx_i hrw_i hse_i hkp_i hTr_i
          obtain ⟨rh_p, nx_p, f1_p, fn_p, frd_p, ft_p, fo_p, fa_p, frw_p, fh_p, fu_p, fb_p, fz_p, fkp_p, g136_p, g137_p, g138_p, g139_p, g140_p, g141_p, g142_p, g143_p, g144_p, g145_p, g146_p, g147_p, g148_p, hg_p, hv_p, ht_p, hnx_p, hrw_p, hse_p, hkp_p, hTr_p⟩ := id (modX_getD hXp)
          have hs_p : shp (yrL (AL S) (Ad S) i) (AL S) := hs_i
          have hkT_p := hkT_i
          have hn_p : Ln (yrL (AL S) (Ad S) i) = Ln (AL S) := hs_p.1
          have hV0_p := modX_V0 hXp
          have hV1_p := modX_V1 hXp hs_p
          refine lv_aload_n hx hb dX5_years_44 rfl (lv_at hl 0 rfl) ?_
          refine nv_get F hW (by omega) g136_p rfl iX5 16 (by decide) tw_645 rfl dX5_years_45 ?_
          refine lv_bipush (v := nI 33) hx hb dX5_years_48 (by decide) ?_
          refine lv_lushr hx hb dX5_years_50 rfl ?_
          refine lv_ldc2 (v := lN 40) hx hb F.1.2.2.2.1 (hts _ tw_927) dX5_years_51 ?_
          refine lv_lrem hx hb dX5_years_54 (by decide) ?_
          refine lv_l2i hx hb dX5_years_55 rfl ?_
          refine nv_top (y := ((nI (lotN x9)))) (lot_eq x9) ?_
          refine lv_istore (lv' := [(4, .int (nI (lotN x9))), (0, .ref (xa cx 136)), (1, .int (nI mm)), (2, .int (nI (yrS (AL S) (Ad S) i))), (3, .int (nI i))]) hx hb dX5_years_56 hl (by decide) rfl (fun ls hl => ?_)
          have hlt := lotN_lt x9
          refine lv_iload hx hb dX5_years_58 (lv_at hl 0 rfl) ?_
          refine lv_bipush (v := nI 35) hx hb dX5_years_60 (by decide) ?_
          refine nv_cle (tgt := 74) F (by omega) (by omega) dX5_years_62 (by decide) (fun c_6 => ?_) (fun c_6 => ?_)
          · skip
            refine lv_iload hx hb dX5_years_74 (lv_at hl 0 rfl) ?_
            refine lv_bipush (v := nI 17) hx hb dX5_years_76 (by decide) ?_
            refine nv_cle (tgt := 106) F (by omega) (by omega) dX5_years_78 (by decide) (fun c_7 => ?_) (fun c_7 => ?_)
            · skip
              refine lv_iload hx hb dX5_years_106 (lv_at hl 0 rfl) ?_
              refine lv_bipush (v := nI 11) hx hb dX5_years_108 (by decide) ?_
              refine nv_cle (tgt := 133) F (by omega) (by omega) dX5_years_110 (by decide) (fun c_8 => ?_) (fun c_8 => ?_)
              · skip
                refine lv_aload_n hx hb dX5_years_133 rfl (lv_at hl 1 rfl) ?_
                refine lv_iconst (v := nI 1) hx hb dX5_years_134 (by decide) ?_
                refine lv_iconst (v := nI 0) hx hb dX5_years_135 (by decide) ?_
                refine lv_bipush (v := nI 10) hx hb dX5_years_136 (by decide) ?_
                refine lv_iload hx hb dX5_years_138 (lv_at hl 0 rfl) ?_
                refine lv_iconst (v := nI 2) hx hb dX5_years_140 (by decide) ?_
                refine nv_div F (by omega) (by omega) (by omega) dX5_years_141 ?_
                refine nv_mul F dX5_years_142 ?_
                refine lv_iconst (v := nI 1) hx hb dX5_years_143 (by decide) ?_
                refine nv_add F dX5_years_144 ?_
                refine lv_iload hx hb dX5_years_145 (lv_at hl 0 rfl) ?_
                refine lv_iconst (v := nI 2) hx hb dX5_years_147 (by decide) ?_
                refine nv_rem F (by omega) (by omega) (by omega) dX5_years_148 ?_
                refine nv_add F dX5_years_149 ?_
                refine cl_ie (cl_run (rest := []) F hW e_X5_170 (m_tryThing hI l hN hXp hA hMo hB hs_p hkT_p (by omega) 1 0 (((10 * ((lotN x9) / 2)) + 1) + ((lotN x9) % 2)) (by omega) (by omega) (by omega)) ⟨Nat.le_of_ble_eq_true rfl, Nat.le_of_ble_eq_true rfl⟩ (by omega) g136_p rfl rfl rfl hl (Nat.le_of_ble_eq_true rfl) dX5_years_150 ⟨Nat.zero_le _, Nat.zero_le _⟩) hW (fun μ9 H locs q_9 hW => ?_)
                obtain ⟨hX_9, ho_9⟩ := q_9
                obtain ⟨rh_9, nx_9, f1_9, fn_9, frd_9, ft_9, fo_9, fa_9, frw_9, fh_9, fu_9, fb_9, fz_9, fkp_9, g136_9, g137_9, g138_9, g139_9, g140_9, g141_9, g142_9, g143_9, g144_9, g145_9, g146_9, g147_9, g148_9, hg_9, hv_9, ht_9, hnx_9, hrw_9, hse_9, hkp_9, hTr_9⟩ := id (modX_getD hX_9)
                have hs_9 : shp (tR (yrL (AL S) (Ad S) i) 1 0 (((10 * ((lotN x9) / 2)) + 1) + ((lotN x9) % 2))) (AL S) := shp_tr shp_tR hs_p
                have hkT_9 := lok_tR hkT_p 1 0 (((10 * ((lotN x9) / 2)) + 1) + ((lotN x9) % 2))
                have hn_9 : Ln (tR (yrL (AL S) (Ad S) i) 1 0 (((10 * ((lotN x9) / 2)) + 1) + ((lotN x9) % 2))) = Ln (AL S) := hs_9.1
                have hV0_9 := modX_V0 hX_9
                have hV1_9 := modX_V1 hX_9 hs_9
                refine lv_pop hx hb dX5_years_153 rfl ?_
                have eY : tR (yrL (AL S) (Ad S) i) 1 0 (((10 * ((lotN x9) / 2)) + 1) + ((lotN x9) % 2)) = yrL (AL S) (Ad S) (i + 1) := by show _ = plY (yrL (AL S) (Ad S) i) (lotN (sd (Ad S) (i + 1))); rw [← ex9]; unfold plY; rw [if_pos (by omega), Nat.add_assoc]; exact tR_1 (by omega)
                have hXy : modX cx μ9 (uD S x9) (fun fn => lv fn 31 (yrL (AL S) (Ad S) (i + 1))) := by rw [← eY]; exact hX_9
                obtain ⟨rh_y, nx_y, f1_y, fn_y, frd_y, ft_y, fo_y, fa_y, frw_y, fh_y, fu_y, fb_y, fz_y, fkp_y, g136_y, g137_y, g138_y, g139_y, g140_y, g141_y, g142_y, g143_y, g144_y, g145_y, g146_y, g147_y, g148_y, hg_y, hv_y, ht_y, hnx_y, hrw_y, hse_y, hkp_y, hTr_y⟩ := id (modX_getD hXy)
                have hs_y : shp (yrL (AL S) (Ad S) (i + 1)) (AL S) := shp_yrL _ _ _
                have hkT_y := lok_yrL hk (Ad S) (i + 1)
                have hn_y : Ln (yrL (AL S) (Ad S) (i + 1)) = Ln (AL S) := hs_y.1
                have hV0_y := modX_V0 hXy
                have hV1_y := modX_V1 hXy hs_y
                refine lv_iload_n hx hb dX5_years_154 rfl (lv_at hl 3 rfl) ?_
                refine lv_aload_n hx hb dX5_years_155 rfl (lv_at hl 1 rfl) ?_
                refine lv_iconst (v := nI 1) hx hb dX5_years_156 (by decide) ?_
                refine cl_ip (cl_run (rest := [.int (nI (yrS (AL S) (Ad S) i))]) F hW e_X5_140 (m_standingOn hI l hN hV1_y hkT_y (by omega) (by omega)) ⟨Nat.le_of_ble_eq_true rfl, Nat.le_of_ble_eq_true rfl⟩ (by omega) g136_y rfl rfl rfl hl (Nat.le_of_ble_eq_true rfl) dX5_years_157 ⟨Nat.zero_le _, Nat.zero_le _⟩) hW (fun H locs hW => ?_)
                refine cl_ip (cl_runS (rest := [.int (nI (yrS (AL S) (Ad S) i))]) F hW e_X5_114 (m_ones hI l (LU (yrL (AL S) (Ad S) (i + 1))) (lok_U (lok_yrL hk (Ad S) (i + 1)))) ⟨Nat.le_of_ble_eq_true rfl, Nat.le_of_ble_eq_true rfl⟩ rfl rfl hl (Nat.le_of_ble_eq_true rfl) dX5_years_160 ⟨Nat.zero_le _, Nat.zero_le _⟩) hW (fun H locs hW => ?_)
                refine nv_add F dX5_years_163 ?_
                refine lv_istore_n (lv' := [(2, .int (nI ((yrS (AL S) (Ad S) i) + (pop (LU (yrL (AL S) (Ad S) (i + 1))))))), (4, .int (nI (lotN x9))), (0, .ref (xa cx 136)), (1, .int (nI mm)), (3, .int (nI i))]) hx hb dX5_years_164 rfl hl (by decide) rfl (fun ls hl => ?_)
                refine lv_iinc (v := ((nI (i + 1)))) (lv' := [(3, .int (nI (i + 1))), (2, .int (nI ((yrS (AL S) (Ad S) i) + (pop (LU (yrL (AL S) (Ad S) (i + 1))))))), (4, .int (nI (lotN x9))), (0, .ref (xa cx 136)), (1, .int (nI mm))]) hx hb dX5_years_165 hl (k := 4) rfl (nI_add _ _) (by decide) rfl (fun ls hl => ?_)
                refine lv_goto (tgt := 23) hx hb dX5_years_168 (by decide) ?_
                exact ih (i + 1) μ9 _ _ _ (by omega) (by rw [← ex9]; exact hXy) (fun z hz => by rw [ho_9 z (by omega)]; rw [eμ5, va_up_ne _ _ (by omega)]; rw [hoi z (by omega)]) hW (lv_sub hl [3, 4, 1, 0] rfl)
              · skip
                refine lv_aload_n hx hb dX5_years_113 rfl (lv_at hl 1 rfl) ?_
                refine lv_iconst (v := nI 2) hx hb dX5_years_114 (by decide) ?_
                refine lv_iconst (v := nI 0) hx hb dX5_years_115 (by decide) ?_
                refine lv_bipush (v := nI 10) hx hb dX5_years_116 (by decide) ?_
                refine lv_iload hx hb dX5_years_118 (lv_at hl 0 rfl) ?_
                refine lv_bipush (v := nI 12) hx hb dX5_years_120 (by decide) ?_
                refine nv_sub F (by omega) dX5_years_122 ?_
                refine nv_mul F dX5_years_123 ?_
                refine lv_iconst (v := nI 1) hx hb dX5_years_124 (by decide) ?_
                refine nv_add F dX5_years_125 ?_
                refine cl_ie (cl_run (rest := []) F hW e_X5_170 (m_tryThing hI l hN hXp hA hMo hB hs_p hkT_p (by omega) 2 0 ((10 * ((lotN x9) - 12)) + 1) (by omega) (by omega) (by omega)) ⟨Nat.le_of_ble_eq_true rfl, Nat.le_of_ble_eq_true rfl⟩ (by omega) g136_p rfl rfl rfl hl (Nat.le_of_ble_eq_true rfl) dX5_years_126 ⟨Nat.zero_le _, Nat.zero_le _⟩) hW (fun μ10 H locs q_10 hW => ?_)
                obtain ⟨hX_10, ho_10⟩ := q_10
                obtain ⟨rh_10, nx_10, f1_10, fn_10, frd_10, ft_10, fo_10, fa_10, frw_10, fh_10, fu_10, fb_10, fz_10, fkp_10, g136_10, g137_10, g138_10, g139_10, g140_10, g141_10, g142_10, g143_10, g144_10, g145_10, g146_10, g147_10, g148_10, hg_10, hv_10, ht_10, hnx_10, hrw_10, hse_10, hkp_10, hTr_10⟩ := id (modX_getD hX_10)
                have hs_10 : shp (tR (yrL (AL S) (Ad S) i) 2 0 ((10 * ((lotN x9) - 12)) + 1)) (AL S) := shp_tr shp_tR hs_p
                have hkT_10 := lok_tR hkT_p 2 0 ((10 * ((lotN x9) - 12)) + 1)
                have hn_10 : Ln (tR (yrL (AL S) (Ad S) i) 2 0 ((10 * ((lotN x9) - 12)) + 1)) = Ln (AL S) := hs_10.1
                have hV0_10 := modX_V0 hX_10
                have hV1_10 := modX_V1 hX_10 hs_10
                refine lv_pop hx hb dX5_years_129 rfl ?_
                refine lv_goto (tgt := 154) hx hb dX5_years_130 (by decide) ?_
                have eY : tR (yrL (AL S) (Ad S) i) 2 0 ((10 * ((lotN x9) - 12)) + 1) = yrL (AL S) (Ad S) (i + 1) := by show _ = plY (yrL (AL S) (Ad S) i) (lotN (sd (Ad S) (i + 1))); rw [← ex9]; unfold plY; rw [if_neg (by omega), if_pos (by omega)]; exact tR_2 (by omega)
                have hXy : modX cx μ10 (uD S x9) (fun fn => lv fn 31 (yrL (AL S) (Ad S) (i + 1))) := by rw [← eY]; exact hX_10
                obtain ⟨rh_y, nx_y, f1_y, fn_y, frd_y, ft_y, fo_y, fa_y, frw_y, fh_y, fu_y, fb_y, fz_y, fkp_y, g136_y, g137_y, g138_y, g139_y, g140_y, g141_y, g142_y, g143_y, g144_y, g145_y, g146_y, g147_y, g148_y, hg_y, hv_y, ht_y, hnx_y, hrw_y, hse_y, hkp_y, hTr_y⟩ := id (modX_getD hXy)
                have hs_y : shp (yrL (AL S) (Ad S) (i + 1)) (AL S) := shp_yrL _ _ _
                have hkT_y := lok_yrL hk (Ad S) (i + 1)
                have hn_y : Ln (yrL (AL S) (Ad S) (i + 1)) = Ln (AL S) := hs_y.1
                have hV0_y := modX_V0 hXy
                have hV1_y := modX_V1 hXy hs_y
                refine lv_iload_n hx hb dX5_years_154 rfl (lv_at hl 3 rfl) ?_
                refine lv_aload_n hx hb dX5_years_155 rfl (lv_at hl 1 rfl) ?_
                refine lv_iconst (v := nI 1) hx hb dX5_years_156 (by decide) ?_
                refine cl_ip (cl_run (rest := [.int (nI (yrS (AL S) (Ad S) i))]) F hW e_X5_140 (m_standingOn hI l hN hV1_y hkT_y (by omega) (by omega)) ⟨Nat.le_of_ble_eq_true rfl, Nat.le_of_ble_eq_true rfl⟩ (by omega) g136_y rfl rfl rfl hl (Nat.le_of_ble_eq_true rfl) dX5_years_157 ⟨Nat.zero_le _, Nat.zero_le _⟩) hW (fun H locs hW => ?_)
                refine cl_ip (cl_runS (rest := [.int (nI (yrS (AL S) (Ad S) i))]) F hW e_X5_114 (m_ones hI l (LU (yrL (AL S) (Ad S) (i + 1))) (lok_U (lok_yrL hk (Ad S) (i + 1)))) ⟨Nat.le_of_ble_eq_true rfl, Nat.le_of_ble_eq_true rfl⟩ rfl rfl hl (Nat.le_of_ble_eq_true rfl) dX5_years_160 ⟨Nat.zero_le _, Nat.zero_le _⟩) hW (fun H locs hW => ?_)
                refine nv_add F dX5_years_163 ?_
                refine lv_istore_n (lv' := [(2, .int (nI ((yrS (AL S) (Ad S) i) + (pop (LU (yrL (AL S) (Ad S) (i + 1))))))), (4, .int (nI (lotN x9))), (0, .ref (xa cx 136)), (1, .int (nI mm)), (3, .int (nI i))]) hx hb dX5_years_164 rfl hl (by decide) rfl (fun ls hl => ?_)
                refine lv_iinc (v := ((nI (i + 1)))) (lv' := [(3, .int (nI (i + 1))), (2, .int (nI ((yrS (AL S) (Ad S) i) + (pop (LU (yrL (AL S) (Ad S) (i + 1))))))), (4, .int (nI (lotN x9))), (0, .ref (xa cx 136)), (1, .int (nI mm))]) hx hb dX5_years_165 hl (k := 4) rfl (nI_add _ _) (by decide) rfl (fun ls hl => ?_)
                refine lv_goto (tgt := 23) hx hb dX5_years_168 (by decide) ?_
                exact ih (i + 1) μ10 _ _ _ (by omega) (by rw [← ex9]; exact hXy) (fun z hz => by rw [ho_10 z (by omega)]; rw [eμ5, va_up_ne _ _ (by omega)]; rw [hoi z (by omega)]) hW (lv_sub hl [3, 4, 1, 0] rfl)
            · skip
              refine lv_aload_n hx hb dX5_years_81 rfl (lv_at hl 1 rfl) ?_
              refine lv_iconst (v := nI 3) hx hb dX5_years_82 (by decide) ?_
              refine lv_iconst (v := nI 0) hx hb dX5_years_83 (by decide) ?_
              refine lv_bipush (v := nI 10) hx hb dX5_years_84 (by decide) ?_
              refine lv_iload hx hb dX5_years_86 (lv_at hl 0 rfl) ?_
              refine lv_bipush (v := nI 18) hx hb dX5_years_88 (by decide) ?_
              refine nv_sub F (by omega) dX5_years_90 ?_
              refine lv_iconst (v := nI 3) hx hb dX5_years_91 (by decide) ?_
              refine nv_div F (by omega) (by omega) (by omega) dX5_years_92 ?_
              refine nv_mul F dX5_years_93 ?_
              refine lv_iload hx hb dX5_years_94 (lv_at hl 0 rfl) ?_
              refine lv_iconst (v := nI 3) hx hb dX5_years_96 (by decide) ?_
              refine nv_rem F (by omega) (by omega) (by omega) dX5_years_97 ?_
              refine nv_add F dX5_years_98 ?_
              refine cl_ie (cl_run (rest := []) F hW e_X5_170 (m_tryThing hI l hN hXp hA hMo hB hs_p hkT_p (by omega) 3 0 ((10 * (((lotN x9) - 18) / 3)) + ((lotN x9) % 3)) (by omega) (by omega) (by omega)) ⟨Nat.le_of_ble_eq_true rfl, Nat.le_of_ble_eq_true rfl⟩ (by omega) g136_p rfl rfl rfl hl (Nat.le_of_ble_eq_true rfl) dX5_years_99 ⟨Nat.zero_le _, Nat.zero_le _⟩) hW (fun μ11 H locs q_11 hW => ?_)
              obtain ⟨hX_11, ho_11⟩ := q_11
              obtain ⟨rh_11, nx_11, f1_11, fn_11, frd_11, ft_11, fo_11, fa_11, frw_11, fh_11, fu_11, fb_11, fz_11, fkp_11, g136_11, g137_11, g138_11, g139_11, g140_11, g141_11, g142_11, g143_11, g144_11, g145_11, g146_11, g147_11, g148_11, hg_11, hv_11, ht_11, hnx_11, hrw_11, hse_11, hkp_11, hTr_11⟩ := id (modX_getD hX_11)
              have hs_11 : shp (tR (yrL (AL S) (Ad S) i) 3 0 ((10 * (((lotN x9) - 18) / 3)) + ((lotN x9) % 3))) (AL S) := shp_tr shp_tR hs_p
              have hkT_11 := lok_tR hkT_p 3 0 ((10 * (((lotN x9) - 18) / 3)) + ((lotN x9) % 3))
              have hn_11 : Ln (tR (yrL (AL S) (Ad S) i) 3 0 ((10 * (((lotN x9) - 18) / 3)) + ((lotN x9) % 3))) = Ln (AL S) := hs_11.1
              have hV0_11 := modX_V0 hX_11
              have hV1_11 := modX_V1 hX_11 hs_11
              refine lv_pop hx hb dX5_years_102 rfl ?_
              refine lv_goto (tgt := 154) hx hb dX5_years_103 (by decide) ?_
              have eY : tR (yrL (AL S) (Ad S) i) 3 0 ((10 * (((lotN x9) - 18) / 3)) + ((lotN x9) % 3)) = yrL (AL S) (Ad S) (i + 1) := by show _ = plY (yrL (AL S) (Ad S) i) (lotN (sd (Ad S) (i + 1))); rw [← ex9]; unfold plY; rw [if_neg (by omega), if_neg (by omega), if_pos (by omega), show (lotN x9 - 18) % 3 = lotN x9 % 3 by omega]; exact tR_3 (by omega)
              have hXy : modX cx μ11 (uD S x9) (fun fn => lv fn 31 (yrL (AL S) (Ad S) (i + 1))) := by rw [← eY]; exact hX_11
              obtain ⟨rh_y, nx_y, f1_y, fn_y, frd_y, ft_y, fo_y, fa_y, frw_y, fh_y, fu_y, fb_y, fz_y, fkp_y, g136_y, g137_y, g138_y, g139_y, g140_y, g141_y, g142_y, g143_y, g144_y, g145_y, g146_y, g147_y, g148_y, hg_y, hv_y, ht_y, hnx_y, hrw_y, hse_y, hkp_y, hTr_y⟩ := id (modX_getD hXy)
              have hs_y : shp (yrL (AL S) (Ad S) (i + 1)) (AL S) := shp_yrL _ _ _
              have hkT_y := lok_yrL hk (Ad S) (i + 1)
              have hn_y : Ln (yrL (AL S) (Ad S) (i + 1)) = Ln (AL S) := hs_y.1
              have hV0_y := modX_V0 hXy
              have hV1_y := modX_V1 hXy hs_y
              refine lv_iload_n hx hb dX5_years_154 rfl (lv_at hl 3 rfl) ?_
              refine lv_aload_n hx hb dX5_years_155 rfl (lv_at hl 1 rfl) ?_
              refine lv_iconst (v := nI 1) hx hb dX5_years_156 (by decide) ?_
              refine cl_ip (cl_run (rest := [.int (nI (yrS (AL S) (Ad S) i))]) F hW e_X5_140 (m_standingOn hI l hN hV1_y hkT_y (by omega) (by omega)) ⟨Nat.le_of_ble_eq_true rfl, Nat.le_of_ble_eq_true rfl⟩ (by omega) g136_y rfl rfl rfl hl (Nat.le_of_ble_eq_true rfl) dX5_years_157 ⟨Nat.zero_le _, Nat.zero_le _⟩) hW (fun H locs hW => ?_)
              refine cl_ip (cl_runS (rest := [.int (nI (yrS (AL S) (Ad S) i))]) F hW e_X5_114 (m_ones hI l (LU (yrL (AL S) (Ad S) (i + 1))) (lok_U (lok_yrL hk (Ad S) (i + 1)))) ⟨Nat.le_of_ble_eq_true rfl, Nat.le_of_ble_eq_true rfl⟩ rfl rfl hl (Nat.le_of_ble_eq_true rfl) dX5_years_160 ⟨Nat.zero_le _, Nat.zero_le _⟩) hW (fun H locs hW => ?_)
              refine nv_add F dX5_years_163 ?_
              refine lv_istore_n (lv' := [(2, .int (nI ((yrS (AL S) (Ad S) i) + (pop (LU (yrL (AL S) (Ad S) (i + 1))))))), (4, .int (nI (lotN x9))), (0, .ref (xa cx 136)), (1, .int (nI mm)), (3, .int (nI i))]) hx hb dX5_years_164 rfl hl (by decide) rfl (fun ls hl => ?_)
              refine lv_iinc (v := ((nI (i + 1)))) (lv' := [(3, .int (nI (i + 1))), (2, .int (nI ((yrS (AL S) (Ad S) i) + (pop (LU (yrL (AL S) (Ad S) (i + 1))))))), (4, .int (nI (lotN x9))), (0, .ref (xa cx 136)), (1, .int (nI mm))]) hx hb dX5_years_165 hl (k := 4) rfl (nI_add _ _) (by decide) rfl (fun ls hl => ?_)
              refine lv_goto (tgt := 23) hx hb dX5_years_168 (by decide) ?_
              exact ih (i + 1) μ11 _ _ _ (by omega) (by rw [← ex9]; exact hXy) (fun z hz => by rw [ho_11 z (by omega)]; rw [eμ5, va_up_ne _ _ (by omega)]; rw [hoi z (by omega)]) hW (lv_sub hl [3, 4, 1, 0] rfl)
          · skip
            refine lv_aload_n hx hb dX5_years_65 rfl (lv_at hl 1 rfl) ?_
            refine lv_iconst (v := nI 1) hx hb dX5_years_66 (by decide) ?_
            refine cl_ie (cl_run (rest := []) F hW e_X5_137 (m_goOn1 hI l hN hXp hA hMo hB hs_p hkT_p (by omega)) ⟨Nat.le_of_ble_eq_true rfl, Nat.le_of_ble_eq_true rfl⟩ (by omega) g136_p rfl rfl rfl hl (Nat.le_of_ble_eq_true rfl) dX5_years_67 ⟨Nat.zero_le _, Nat.zero_le _⟩) hW (fun μ12 H locs q_12 hW => ?_)
            obtain ⟨hX_12, ho_12⟩ := q_12
            have hX_12 : modX cx μ12 (uD S x9) (fun fn => lv fn 31 (hour (yrL (AL S) (Ad S) i))) := hX_12
            obtain ⟨rh_12, nx_12, f1_12, fn_12, frd_12, ft_12, fo_12, fa_12, frw_12, fh_12, fu_12, fb_12, fz_12, fkp_12, g136_12, g137_12, g138_12, g139_12, g140_12, g141_12, g142_12, g143_12, g144_12, g145_12, g146_12, g147_12, g148_12, hg_12, hv_12, ht_12, hnx_12, hrw_12, hse_12, hkp_12, hTr_12⟩ := id (modX_getD hX_12)
            have hs_12 : shp (hour (yrL (AL S) (Ad S) i)) (AL S) := shp_tr shp_hour hs_p
            have hkT_12 := lok_hour hkT_p
            have hn_12 : Ln (hour (yrL (AL S) (Ad S) i)) = Ln (AL S) := hs_12.1
            have hV0_12 := modX_V0 hX_12
            have hV1_12 := modX_V1 hX_12 hs_12
            refine lv_pop hx hb dX5_years_70 rfl ?_
            refine lv_goto (tgt := 154) hx hb dX5_years_71 (by decide) ?_
            have eY : hour (yrL (AL S) (Ad S) i) = yrL (AL S) (Ad S) (i + 1) := by show _ = plY (yrL (AL S) (Ad S) i) (lotN (sd (Ad S) (i + 1))); rw [← ex9]; unfold plY; rw [if_neg (by omega), if_neg (by omega), if_neg (by omega)]
            have hXy : modX cx μ12 (uD S x9) (fun fn => lv fn 31 (yrL (AL S) (Ad S) (i + 1))) := by rw [← eY]; exact hX_12
            obtain ⟨rh_y, nx_y, f1_y, fn_y, frd_y, ft_y, fo_y, fa_y, frw_y, fh_y, fu_y, fb_y, fz_y, fkp_y, g136_y, g137_y, g138_y, g139_y, g140_y, g141_y, g142_y, g143_y, g144_y, g145_y, g146_y, g147_y, g148_y, hg_y, hv_y, ht_y, hnx_y, hrw_y, hse_y, hkp_y, hTr_y⟩ := id (modX_getD hXy)
            have hs_y : shp (yrL (AL S) (Ad S) (i + 1)) (AL S) := shp_yrL _ _ _
            have hkT_y := lok_yrL hk (Ad S) (i + 1)
            have hn_y : Ln (yrL (AL S) (Ad S) (i + 1)) = Ln (AL S) := hs_y.1
            have hV0_y := modX_V0 hXy
            have hV1_y := modX_V1 hXy hs_y
            refine lv_iload_n hx hb dX5_years_154 rfl (lv_at hl 3 rfl) ?_
            refine lv_aload_n hx hb dX5_years_155 rfl (lv_at hl 1 rfl) ?_
            refine lv_iconst (v := nI 1) hx hb dX5_years_156 (by decide) ?_
            refine cl_ip (cl_run (rest := [.int (nI (yrS (AL S) (Ad S) i))]) F hW e_X5_140 (m_standingOn hI l hN hV1_y hkT_y (by omega) (by omega)) ⟨Nat.le_of_ble_eq_true rfl, Nat.le_of_ble_eq_true rfl⟩ (by omega) g136_y rfl rfl rfl hl (Nat.le_of_ble_eq_true rfl) dX5_years_157 ⟨Nat.zero_le _, Nat.zero_le _⟩) hW (fun H locs hW => ?_)
            refine cl_ip (cl_runS (rest := [.int (nI (yrS (AL S) (Ad S) i))]) F hW e_X5_114 (m_ones hI l (LU (yrL (AL S) (Ad S) (i + 1))) (lok_U (lok_yrL hk (Ad S) (i + 1)))) ⟨Nat.le_of_ble_eq_true rfl, Nat.le_of_ble_eq_true rfl⟩ rfl rfl hl (Nat.le_of_ble_eq_true rfl) dX5_years_160 ⟨Nat.zero_le _, Nat.zero_le _⟩) hW (fun H locs hW => ?_)
            refine nv_add F dX5_years_163 ?_
            refine lv_istore_n (lv' := [(2, .int (nI ((yrS (AL S) (Ad S) i) + (pop (LU (yrL (AL S) (Ad S) (i + 1))))))), (4, .int (nI (lotN x9))), (0, .ref (xa cx 136)), (1, .int (nI mm)), (3, .int (nI i))]) hx hb dX5_years_164 rfl hl (by decide) rfl (fun ls hl => ?_)
            refine lv_iinc (v := ((nI (i + 1)))) (lv' := [(3, .int (nI (i + 1))), (2, .int (nI ((yrS (AL S) (Ad S) i) + (pop (LU (yrL (AL S) (Ad S) (i + 1))))))), (4, .int (nI (lotN x9))), (0, .ref (xa cx 136)), (1, .int (nI mm))]) hx hb dX5_years_165 hl (k := 4) rfl (nI_add _ _) (by decide) rfl (fun ls hl => ?_)
            refine lv_goto (tgt := 23) hx hb dX5_years_168 (by decide) ?_
            exact ih (i + 1) μ12 _ _ _ (by omega) (by rw [← ex9]; exact hXy) (fun z hz => by rw [ho_12 z (by omega)]; rw [eμ5, va_up_ne _ _ (by omega)]; rw [hoi z (by omega)]) hW (lv_sub hl [3, 4, 1, 0] rfl)
    exact LOOP mm 0 μ2 _ _ _ (by omega) hX_2 (fun z hz => by rw [ho_2 z (by omega)]) hW (lv_sub hl [2, 3, 1, 0] rfl)
  · skip
    refine lv_bipush (v := (-2)) hx hb dX5_years_12 (by decide) ?_
    exact rt_ie F hr hlk hW (by unfold r_years; rw [‹c30 n = false›]; rfl) ⟨by unfold s_years; rw [‹c30 n = false›]; exact (modX_tr hX (fun _ _ => trivial)), off_rf⟩ dX5_years_14
