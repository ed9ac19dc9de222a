set_option maxHeartbeats 4000000 in
set_option maxRecDepth 100000 in
theorem x_write {cx : CX} (hI : xI cx) (l : Launch) {μ : ME} {S : AS} {B : Nat} {Tr : (Nat → Int32) → Prop} (hN : 149 ≤ xN cx) (hX : modX cx μ S Tr) (hA : aok S B) (hMo : mok S) (hB : B < 800000) (x : Int32) : MT cx l yX5_write cX5_write 2 (some .int) 1 25 [.ref (xa cx 136), .int x] μ (Ei cx (r_write S x) (fun μ1 => modX cx μ1 (s_write S x) (fun _ => True) ∧ off 136 13 μ μ1)) := by
  refine mt_of hI (by decide) (Nat.le_of_ble_eq_true rfl) ?_
  intro p e s m below meth c ls F hr hlk hW hl
  have hx := F.1.1
  have hb := F.1.2.1
  have hts := F.1.2.2.2.2
  obtain ⟨rh, nx, f1, fn, frd, ft, fo, fa, frw, fh, fu, fb, fz, fkp, g136, g137, g138, g139, g140, g141, g142, g143, g144, g145, g146, g147, g148, hg, hv, ht, hnx, hrw, hse, hkp, hTr⟩ := id hX
  have hk := hA.2.1
  have hn6 := hk.1
  have hk4 := hk.2.2.2.1
  have hU := lok_U hk
  have hV0 := modX_V0 hX
  have hl : lv_has ls 2 [(0, .ref (xa cx 136)), (1, .int x)] := hl
  refine lv_iload_n hx hb dX5_write_0 rfl (lv_at hl 1 rfl) ?_
  refine lv_i2l hx hb dX5_write_1 rfl ?_
  refine lv_lconst (v := lN 0) hx hb dX5_write_2 (by decide) ?_
  refine lv_ldc2 (v := lN 255) hx hb F.1.2.2.2.1 (hts _ tw_692) dX5_write_3 ?_
  refine cl_ip (cl_runS (rest := []) F hW e_X5_49 (m_in hI l ((x.toInt64)) ((lN 0)) ((lN 255))) ⟨Nat.le_of_ble_eq_true rfl, Nat.le_of_ble_eq_true rfl⟩ rfl rfl hl (Nat.le_of_ble_eq_true rfl) dX5_write_6 ⟨Nat.zero_le _, Nat.zero_le _⟩) hW (fun H locs hW => ?_)
  refine nv_top (y := ((b2 (inR x 256)))) (congrArg b2 (inL_R (by decide))) ?_
  refine nv_bne (tgt := 15) F dX5_write_9 (by decide) (fun c_1 => ?_) (fun c_1 => ?_)
  · skip
    obtain ⟨c9, hc9, rfl⟩ := inR_of c_1 (by omega)
    refine lv_aload_n hx hb dX5_write_15 rfl (lv_at hl 0 rfl) ?_
    refine nv_get F hW (by omega) g136 rfl iX5 6 (by decide) tw_635 rfl dX5_write_16 ?_
    refine lv_bipush (v := nI 64) hx hb dX5_write_19 (by decide) ?_
    refine nv_cne (tgt := 27) F (by have := hA.1.1; omega) (by omega) dX5_write_21 (by decide) (fun c_2 => ?_) (fun c_2 => ?_)
    · skip
      refine lv_aload_n hx hb dX5_write_27 rfl (lv_at hl 0 rfl) ?_
      refine nv_get F hW (by omega) g136 rfl iX5 5 (by decide) tw_634 rfl dX5_write_28 ?_
      refine lv_aload_n hx hb dX5_write_31 rfl (lv_at hl 0 rfl) ?_
      refine nv_get F hW (by omega) g136 rfl iX5 6 (by decide) tw_635 rfl dX5_write_32 ?_
      refine lv_iload_n hx hb dX5_write_35 rfl (lv_at hl 1 rfl) ?_
      refine nv_iastN F hW (by omega) g140 (by have := hA.1.1; omega) (by decide) dX5_write_36 (fun H locs hW => ?_)
      obtain ⟨μ3, eμ3⟩ : ∃ zz9 : ME, zz9 = va_up μ 140 (.inl (xT cx 0, 64, .inl (upd ft (An S) ((nI c9))))) := ⟨_, rfl⟩
      have hW : St cx s μ3 H locs := by rw [eμ3]; exact hW
      have h136_3 := (congrFun eμ3 136).trans ((va_up_ne _ _ (by omega)).trans g136)
      have h137_3 := (congrFun eμ3 137).trans ((va_up_ne _ _ (by omega)).trans g137)
      have h138_3 := (congrFun eμ3 138).trans ((va_up_ne _ _ (by omega)).trans g138)
      have h139_3 := (congrFun eμ3 139).trans ((va_up_ne _ _ (by omega)).trans g139)
      have h140_3 : μ3 140 = .inl (xT cx 0, 64, .inl (upd ft (An S) ((nI c9)))) := by rw [eμ3, va_up_self]
      have h141_3 := (congrFun eμ3 141).trans ((va_up_ne _ _ (by omega)).trans g141)
      have h142_3 := (congrFun eμ3 142).trans ((va_up_ne _ _ (by omega)).trans g142)
      have h143_3 := (congrFun eμ3 143).trans ((va_up_ne _ _ (by omega)).trans g143)
      have h144_3 := (congrFun eμ3 144).trans ((va_up_ne _ _ (by omega)).trans g144)
      have h145_3 := (congrFun eμ3 145).trans ((va_up_ne _ _ (by omega)).trans g145)
      have h146_3 := (congrFun eμ3 146).trans ((va_up_ne _ _ (by omega)).trans g146)
      have h147_3 := (congrFun eμ3 147).trans ((va_up_ne _ _ (by omega)).trans g147)
      have h148_3 := (congrFun eμ3 148).trans ((va_up_ne _ _ (by omega)).trans g148)
      refine lv_aload_n hx hb dX5_write_37 rfl (lv_at hl 0 rfl) ?_
      refine lv_dup hx hb dX5_write_38 rfl ?_
      refine nv_get F hW (by omega) h136_3 rfl iX5 6 (by decide) tw_635 rfl dX5_write_39 ?_
      refine lv_iconst (v := nI 1) hx hb dX5_write_42 (by decide) ?_
      refine nv_add F dX5_write_43 ?_
      refine nv_put F hW (by omega) h136_3 rfl iX5 tyX5 tyX5_ok nmX5 6 (by decide) tw_635 rfl rfl rfl (Nat.le_of_ble_eq_true rfl) dX5_write_44 (fun H locs hW => ?_)
      obtain ⟨μ4, eμ4⟩ : ∃ zz9 : ME, zz9 = va_up μ3 136 (.inr (5, [.int (nI (Ln (AL S))), .ref (xa cx 137), .ref (xa cx 138), .ref (xa cx 139), .int rh, .ref (xa cx 140), .int (nI ((An S) + 1)), .ref (xa cx 141), .ref (xa cx 142), .int (nI (Az S)), .int (nI nx), .ref (xa cx 143), .int (nI (Ay S)), .ref (xa cx 144), .ref (xa cx 145), .ref (xa cx 146), .long (Ad S), .ref (xa cx 147), .ref (xa cx 148)])) := ⟨_, rfl⟩
      have hW : St cx s μ4 H locs := by rw [eμ4]; exact hW
      have h136_4 : μ4 136 = .inr (5, [.int (nI (Ln (AL S))), .ref (xa cx 137), .ref (xa cx 138), .ref (xa cx 139), .int rh, .ref (xa cx 140), .int (nI ((An S) + 1)), .ref (xa cx 141), .ref (xa cx 142), .int (nI (Az S)), .int (nI nx), .ref (xa cx 143), .int (nI (Ay S)), .ref (xa cx 144), .ref (xa cx 145), .ref (xa cx 146), .long (Ad S), .ref (xa cx 147), .ref (xa cx 148)]) := by rw [eμ4, va_up_self]
      have h137_4 := (congrFun eμ4 137).trans ((va_up_ne _ _ (by omega)).trans h137_3)
      have h138_4 := (congrFun eμ4 138).trans ((va_up_ne _ _ (by omega)).trans h138_3)
      have h139_4 := (congrFun eμ4 139).trans ((va_up_ne _ _ (by omega)).trans h139_3)
      have h140_4 := (congrFun eμ4 140).trans ((va_up_ne _ _ (by omega)).trans h140_3)
      have h141_4 := (congrFun eμ4 141).trans ((va_up_ne _ _ (by omega)).trans h141_3)
      have h142_4 := (congrFun eμ4 142).trans ((va_up_ne _ _ (by omega)).trans h142_3)
      have h143_4 := (congrFun eμ4 143).trans ((va_up_ne _ _ (by omega)).trans h143_3)
      have h144_4 := (congrFun eμ4 144).trans ((va_up_ne _ _ (by omega)).trans h144_3)
      have h145_4 := (congrFun eμ4 145).trans ((va_up_ne _ _ (by omega)).trans h145_3)
      have h146_4 := (congrFun eμ4 146).trans ((va_up_ne _ _ (by omega)).trans h146_3)
      have h147_4 := (congrFun eμ4 147).trans ((va_up_ne _ _ (by omega)).trans h147_3)
      have h148_4 := (congrFun eμ4 148).trans ((va_up_ne _ _ (by omega)).trans h148_3)
      refine lv_aload_n hx hb dX5_write_47 rfl (lv_at hl 0 rfl) ?_
      refine nv_get F hW (by omega) h136_4 rfl iX5 6 (by decide) tw_635 rfl dX5_write_48 ?_
      exact rt_ie F hr hlk hW (by have h64 := hA.1.1; unfold r_write; rw [inR_j hc9 (by decide), if_pos rfl]; first | rw [if_pos (by omega)] | rw [if_neg (by omega)]) ⟨by have h64 := hA.1.1; unfold s_write; rw [inR_j hc9 (by decide), decide_eq_true (by omega), nI_clamp (by omega)]; exact ⟨rh, nx, f1, fn, frd, (upd ft (An S) ((nI c9))), fo, fa, frw, fh, fu, fb, fz, fkp, h136_4, h137_4, h138_4, h139_4, h140_4, h141_4, h142_4, h143_4, h144_4, h145_4, h146_4, h147_4, h148_4, hg, hv, fun i hi => by
      have hi : i < An S + 1 := hi
      unfold upd
      show _ = nI (va_up (At S) (An S) c9 i)
      unfold va_up
      by_cases e9 : i = An S
      · rw [if_pos e9, if_pos e9]
      · rw [if_neg e9, if_neg e9]; exact ht i (by omega), hnx, hrw, hse, hkp, trivial⟩, (fun z hz => by rw [eμ4, va_up_ne _ _ (by omega)]; rw [eμ3, va_up_ne _ _ (by omega)])⟩ dX5_write_51
    · skip
      refine lv_bipush (v := (-4)) hx hb dX5_write_24 (by decide) ?_
      exact rt_ie F hr hlk hW (by have h64 := hA.1.1; unfold r_write; rw [inR_j hc9 (by decide), if_pos rfl]; first | rw [if_pos (by omega)] | rw [if_neg (by omega)]) ⟨by unfold s_write; rw [inR_j hc9 (by decide), decide_eq_false (by omega)]; exact (modX_tr hX (fun _ _ => trivial)), off_rf⟩ dX5_write_26
  · skip
    refine lv_bipush (v := (-2)) hx hb dX5_write_12 (by decide) ?_
    exact rt_ie F hr hlk hW (by unfold r_write; rw [‹inR x 256 = false›]; rfl) ⟨by unfold s_write; rw [‹inR x 256 = false›]; exact (modX_tr hX (fun _ _ => trivial)), off_rf⟩ dX5_write_14

set_option maxHeartbeats 4000000 in
set_option maxRecDepth 100000 in
theorem x_wipe {cx : CX} (hI : xI cx) (l : Launch) {μ : ME} {S : AS} {B : Nat} {Tr : (Nat → Int32) → Prop} (hN : 149 ≤ xN cx) (hX : modX cx μ S Tr) (hA : aok S B) (hMo : mok S) (hB : B < 800000) : MT cx l yX5_wipe cX5_wipe 2 (some .int) 0 0 [.ref (xa cx 136)] μ (Ei cx (nI (An S)) (fun μ1 => modX cx μ1 (uT S (At S) 0) (fun _ => True) ∧ off 136 13 μ μ1)) := by
  refine mt_of hI (by decide) (Nat.le_of_ble_eq_true rfl) ?_
  intro p e s m below meth c ls F hr hlk hW hl
  have hx := F.1.1
  have hb := F.1.2.1
  have hts := F.1.2.2.2.2
  obtain ⟨rh, nx, f1, fn, frd, ft, fo, fa, frw, fh, fu, fb, fz, fkp, g136, g137, g138, g139, g140, g141, g142, g143, g144, g145, g146, g147, g148, hg, hv, ht, hnx, hrw, hse, hkp, hTr⟩ := id hX
  have hk := hA.2.1
  have hn6 := hk.1
  have hk4 := hk.2.2.2.1
  have hU := lok_U hk
  have hV0 := modX_V0 hX
  have hl : lv_has ls 2 [(0, .ref (xa cx 136))] := hl
  refine lv_aload_n hx hb dX5_wipe_0 rfl (lv_at hl 0 rfl) ?_
  refine nv_get F hW (by omega) g136 rfl iX5 6 (by decide) tw_635 rfl dX5_wipe_1 ?_
  refine lv_istore_n (lv' := [(1, .int (nI (An S))), (0, .ref (xa cx 136))]) hx hb dX5_wipe_4 rfl hl (by decide) rfl (fun ls hl => ?_)
  refine lv_aload_n hx hb dX5_wipe_5 rfl (lv_at hl 1 rfl) ?_
  refine lv_iconst (v := nI 0) hx hb dX5_wipe_6 (by decide) ?_
  refine nv_put F hW (by omega) g136 rfl iX5 tyX5 tyX5_ok nmX5 6 (by decide) tw_635 rfl rfl rfl (Nat.le_of_ble_eq_true rfl) dX5_wipe_7 (fun H locs hW => ?_)
  obtain ⟨μ1, eμ1⟩ : ∃ zz9 : ME, zz9 = va_up μ 136 (.inr (5, [.int (nI (Ln (AL S))), .ref (xa cx 137), .ref (xa cx 138), .ref (xa cx 139), .int rh, .ref (xa cx 140), .int (nI 0), .ref (xa cx 141), .ref (xa cx 142), .int (nI (Az S)), .int (nI nx), .ref (xa cx 143), .int (nI (Ay S)), .ref (xa cx 144), .ref (xa cx 145), .ref (xa cx 146), .long (Ad S), .ref (xa cx 147), .ref (xa cx 148)])) := ⟨_, rfl⟩
  have hW : St cx s μ1 H locs := by rw [eμ1]; exact hW
  have h136_1 : μ1 136 = .inr (5, [.int (nI (Ln (AL S))), .ref (xa cx 137), .ref (xa cx 138), .ref (xa cx 139), .int rh, .ref (xa cx 140), .int (nI 0), .ref (xa cx 141), .ref (xa cx 142), .int (nI (Az S)), .int (nI nx), .ref (xa cx 143), .int (nI (Ay S)), .ref (xa cx 144), .ref (xa cx 145), .ref (xa cx 146), .long (Ad S), .ref (xa cx 147), .ref (xa cx 148)]) := by rw [eμ1, va_up_self]
  have h137_1 := (congrFun eμ1 137).trans ((va_up_ne _ _ (by omega)).trans g137)
  have h138_1 := (congrFun eμ1 138).trans ((va_up_ne _ _ (by omega)).trans g138)
  have h139_1 := (congrFun eμ1 139).trans ((va_up_ne _ _ (by omega)).trans g139)
  have h140_1 := (congrFun eμ1 140).trans ((va_up_ne _ _ (by omega)).trans g140)
  have h141_1 := (congrFun eμ1 141).trans ((va_up_ne _ _ (by omega)).trans g141)
  have h142_1 := (congrFun eμ1 142).trans ((va_up_ne _ _ (by omega)).trans g142)
  have h143_1 := (congrFun eμ1 143).trans ((va_up_ne _ _ (by omega)).trans g143)
  have h144_1 := (congrFun eμ1 144).trans ((va_up_ne _ _ (by omega)).trans g144)
  have h145_1 := (congrFun eμ1 145).trans ((va_up_ne _ _ (by omega)).trans g145)
  have h146_1 := (congrFun eμ1 146).trans ((va_up_ne _ _ (by omega)).trans g146)
  have h147_1 := (congrFun eμ1 147).trans ((va_up_ne _ _ (by omega)).trans g147)
  have h148_1 := (congrFun eμ1 148).trans ((va_up_ne _ _ (by omega)).trans g148)
  refine lv_iload_n hx hb dX5_wipe_10 rfl (lv_at hl 0 rfl) ?_
  exact rt_ie F hr hlk hW rfl ⟨⟨rh, nx, f1, fn, frd, ft, fo, fa, frw, fh, fu, fb, fz, fkp, h136_1, h137_1, h138_1, h139_1, h140_1, h141_1, h142_1, h143_1, h144_1, h145_1, h146_1, h147_1, h148_1, hg, hv, (fun i hi => absurd (show i < 0 from hi) (by omega)), hnx, hrw, hse, hkp, trivial⟩, (fun z hz => by rw [eμ1, va_up_ne _ _ (by omega)])⟩ dX5_wipe_11

set_option maxHeartbeats 4000000 in
set_option maxRecDepth 100000 in
theorem x_house {cx : CX} (hI : xI cx) (l : Launch) {μ : ME} {S : AS} {B : Nat} {Tr : (Nat → Int32) → Prop} (hN : 149 ≤ xN cx) (hX : modX cx μ S Tr) (hA : aok S B) (hMo : mok S) (hB : B < 800000) (h w : Int32) : MT cx l yX5_house cX5_house 3 (some .int) 3 69 [.ref (xa cx 136), .int h, .int w] μ (Ei cx (r_house S h w) (fun μ1 => modX cx μ1 S (fun _ => True) ∧ off 136 13 μ μ1)) := by
  refine mt_of hI (by decide) (Nat.le_of_ble_eq_true rfl) ?_
  intro p e s m below meth c ls F hr hlk hW hl
  have hx := F.1.1
  have hb := F.1.2.1
  have hts := F.1.2.2.2.2
  obtain ⟨rh, nx, f1, fn, frd, ft, fo, fa, frw, fh, fu, fb, fz, fkp, g136, g137, g138, g139, g140, g141, g142, g143, g144, g145, g146, g147, g148, hg, hv, ht, hnx, hrw, hse, hkp, hTr⟩ := id hX
  have hk := hA.2.1
  have hn6 := hk.1
  have hk4 := hk.2.2.2.1
  have hU := lok_U hk
  have hV0 := modX_V0 hX
  have hl : lv_has ls 3 [(0, .ref (xa cx 136)), (1, .int h), (2, .int w)] := hl
  refine lv_aload_n hx hb dX5_house_0 rfl (lv_at hl 0 rfl) ?_
  refine lv_iload_n hx hb dX5_house_1 rfl (lv_at hl 1 rfl) ?_
  refine cl_ip (cl_run (rest := []) F hW e_X5_91 (m_isHouse hI l hN hV0 hk (by omega) (by omega) h) ⟨Nat.le_of_ble_eq_true rfl, Nat.le_of_ble_eq_true rfl⟩ (by omega) g136 rfl rfl rfl hl (Nat.le_of_ble_eq_true rfl) dX5_house_2 ⟨Nat.zero_le _, Nat.zero_le _⟩) hW (fun H locs hW => ?_)
  refine nv_bne (tgt := 10) F dX5_house_5 (by decide) (fun c_1 => ?_) (fun c_1 => ?_)
  · skip
    obtain ⟨j, hj, rfl⟩ := inR_of c_1 (by omega)
    refine lv_iload_n hx hb dX5_house_10 rfl (lv_at hl 2 rfl) ?_
    by_cases hin8 : inR w 8 = true
    · skip
      obtain ⟨q, hq, rfl⟩ := inR_of hin8 (by decide)
      rcases (show q = 0 ∨ q = 1 ∨ q = 2 ∨ q = 3 ∨ q = 4 ∨ q = 5 ∨ q = 6 ∨ q = 7 by omega) with rfl | rfl | rfl | rfl | rfl | rfl | rfl | rfl
      · skip
        refine lv_tableIn (tgt := 56) hx hb dX5_house_11 (by decide) (by decide) rfl (by decide) ?_
        refine lv_aload_n hx hb dX5_house_56 rfl (lv_at hl 0 rfl) ?_
        refine nv_get F hW (by omega) g136 rfl iX5 2 (by decide) tw_631 rfl dX5_house_57 ?_
        refine lv_iconst (v := nI 0) hx hb dX5_house_60 (by decide) ?_
        refine lv_iload_n hx hb dX5_house_61 rfl (lv_at hl 1 rfl) ?_
        refine nv_add F dX5_house_62 ?_
        refine nv_ialdN (x := ((nI (Lk (AL S) j)))) F hW (by omega) g138 (by omega) (by decide) (hv.1 j (by omega)).1 dX5_house_63 ?_
        exact rt_ie F hr hlk hW (by unfold r_house; rw [inR_j hj (by omega), if_pos rfl, if_pos hin8, nI_clamp (by omega), nI_clamp (by omega)]; first | rfl | (show b2 (lst (AL S) j) = (if lst (AL S) j = true then nI 1 else nI 0); cases lst (AL S) j <;> rfl)) ⟨(modX_tr hX (fun _ _ => trivial)), off_rf⟩ dX5_house_64
      · skip
        refine lv_tableIn (tgt := 65) hx hb dX5_house_11 (by decide) (by decide) rfl (by decide) ?_
        refine lv_aload_n hx hb dX5_house_65 rfl (lv_at hl 0 rfl) ?_
        refine nv_get F hW (by omega) g136 rfl iX5 2 (by decide) tw_631 rfl dX5_house_66 ?_
        refine lv_bipush (v := nI 6) hx hb dX5_house_69 (by decide) ?_
        refine lv_iload_n hx hb dX5_house_71 rfl (lv_at hl 1 rfl) ?_
        refine nv_add F dX5_house_72 ?_
        refine nv_ialdN (x := ((nI (Ls (AL S) j)))) F hW (by omega) g138 (by omega) (by decide) (hv.1 j (by omega)).2.1 dX5_house_73 ?_
        exact rt_ie F hr hlk hW (by unfold r_house; rw [inR_j hj (by omega), if_pos rfl, if_pos hin8, nI_clamp (by omega), nI_clamp (by omega)]; first | rfl | (show b2 (lst (AL S) j) = (if lst (AL S) j = true then nI 1 else nI 0); cases lst (AL S) j <;> rfl)) ⟨(modX_tr hX (fun _ _ => trivial)), off_rf⟩ dX5_house_74
      · skip
        refine lv_tableIn (tgt := 75) hx hb dX5_house_11 (by decide) (by decide) rfl (by decide) ?_
        refine lv_aload_n hx hb dX5_house_75 rfl (lv_at hl 0 rfl) ?_
        refine nv_get F hW (by omega) g136 rfl iX5 1 (by decide) tw_630 rfl dX5_house_76 ?_
        refine lv_iload_n hx hb dX5_house_79 rfl (lv_at hl 1 rfl) ?_
        refine nv_ialdN (x := ((nI (Lg (AL S) j)))) F hW (by omega) g137 (by omega) (by decide) (hg j (by omega)) dX5_house_80 ?_
        exact rt_ie F hr hlk hW (by unfold r_house; rw [inR_j hj (by omega), if_pos rfl, if_pos hin8, nI_clamp (by omega), nI_clamp (by omega)]; first | rfl | (show b2 (lst (AL S) j) = (if lst (AL S) j = true then nI 1 else nI 0); cases lst (AL S) j <;> rfl)) ⟨(modX_tr hX (fun _ _ => trivial)), off_rf⟩ dX5_house_81
      · skip
        refine lv_tableIn (tgt := 82) hx hb dX5_house_11 (by decide) (by decide) rfl (by decide) ?_
        refine lv_aload_n hx hb dX5_house_82 rfl (lv_at hl 0 rfl) ?_
        refine nv_get F hW (by omega) g136 rfl iX5 2 (by decide) tw_631 rfl dX5_house_83 ?_
        refine lv_bipush (v := nI 12) hx hb dX5_house_86 (by decide) ?_
        refine lv_iload_n hx hb dX5_house_88 rfl (lv_at hl 1 rfl) ?_
        refine nv_add F dX5_house_89 ?_
        refine nv_ialdN (x := ((nI (Ld (AL S) j)))) F hW (by omega) g138 (by omega) (by decide) (hv.1 j (by omega)).2.2.1 dX5_house_90 ?_
        exact rt_ie F hr hlk hW (by unfold r_house; rw [inR_j hj (by omega), if_pos rfl, if_pos hin8, nI_clamp (by omega), nI_clamp (by omega)]; first | rfl | (show b2 (lst (AL S) j) = (if lst (AL S) j = true then nI 1 else nI 0); cases lst (AL S) j <;> rfl)) ⟨(modX_tr hX (fun _ _ => trivial)), off_rf⟩ dX5_house_91
      · skip
        refine lv_tableIn (tgt := 92) hx hb dX5_house_11 (by decide) (by decide) rfl (by decide) ?_
        refine lv_aload_n hx hb dX5_house_92 rfl (lv_at hl 0 rfl) ?_
        refine nv_get F hW (by omega) g136 rfl iX5 2 (by decide) tw_631 rfl dX5_house_93 ?_
        refine lv_bipush (v := nI 18) hx hb dX5_house_96 (by decide) ?_
        refine lv_iload_n hx hb dX5_house_98 rfl (lv_at hl 1 rfl) ?_
        refine nv_add F dX5_house_99 ?_
        refine nv_ialdN (x := ((b2 (lst (AL S) j)))) F hW (by omega) g138 (by omega) (by decide) ((hv.1 j (by omega)).2.2.2.1.trans (b2_n _).symm) dX5_house_100 ?_
        exact rt_ie F hr hlk hW (by unfold r_house; rw [inR_j hj (by omega), if_pos rfl, if_pos hin8, nI_clamp (by omega), nI_clamp (by omega)]; first | rfl | (show b2 (lst (AL S) j) = (if lst (AL S) j = true then nI 1 else nI 0); cases lst (AL S) j <;> rfl)) ⟨(modX_tr hX (fun _ _ => trivial)), off_rf⟩ dX5_house_101
      · skip
        refine lv_tableIn (tgt := 102) hx hb dX5_house_11 (by decide) (by decide) rfl (by decide) ?_
        refine lv_aload_n hx hb dX5_house_102 rfl (lv_at hl 0 rfl) ?_
        refine nv_get F hW (by omega) g136 rfl iX5 2 (by decide) tw_631 rfl dX5_house_103 ?_
        refine lv_bipush (v := nI 24) hx hb dX5_house_106 (by decide) ?_
        refine lv_iload_n hx hb dX5_house_108 rfl (lv_at hl 1 rfl) ?_
        refine nv_add F dX5_house_109 ?_
        refine nv_ialdN (x := ((nI (Ll (AL S) j)))) F hW (by omega) g138 (by omega) (by decide) (hv.1 j (by omega)).2.2.2.2 dX5_house_110 ?_
        exact rt_ie F hr hlk hW (by unfold r_house; rw [inR_j hj (by omega), if_pos rfl, if_pos hin8, nI_clamp (by omega), nI_clamp (by omega)]; first | rfl | (show b2 (lst (AL S) j) = (if lst (AL S) j = true then nI 1 else nI 0); cases lst (AL S) j <;> rfl)) ⟨(modX_tr hX (fun _ _ => trivial)), off_rf⟩ dX5_house_111
      · skip
        refine lv_tableIn (tgt := 112) hx hb dX5_house_11 (by decide) (by decide) rfl (by decide) ?_
        refine lv_aload_n hx hb dX5_house_112 rfl (lv_at hl 0 rfl) ?_
        refine lv_iconst (v := nI 0) hx hb dX5_house_113 (by decide) ?_
        refine lv_iload_n hx hb dX5_house_114 rfl (lv_at hl 1 rfl) ?_
        refine cl_ip (cl_run (rest := []) F hW e_X5_84 (m_givesOf hI l hN hV0 hk (by omega) (by omega) j (by omega)) ⟨Nat.le_of_ble_eq_true rfl, Nat.le_of_ble_eq_true rfl⟩ (by omega) g136 rfl rfl rfl hl (Nat.le_of_ble_eq_true rfl) dX5_house_115 ⟨Nat.zero_le _, Nat.zero_le _⟩) hW (fun H locs hW => ?_)
        exact rt_ie F hr hlk hW (by unfold r_house; rw [inR_j hj (by omega), if_pos rfl, if_pos hin8, nI_clamp (by omega), nI_clamp (by omega)]; first | rfl | (show b2 (lst (AL S) j) = (if lst (AL S) j = true then nI 1 else nI 0); cases lst (AL S) j <;> rfl)) ⟨(modX_tr hX (fun _ _ => trivial)), off_rf⟩ dX5_house_118
      · skip
        refine lv_tableIn (tgt := 119) hx hb dX5_house_11 (by decide) (by decide) rfl (by decide) ?_
        refine lv_aload_n hx hb dX5_house_119 rfl (lv_at hl 0 rfl) ?_
        refine lv_iconst (v := nI 0) hx hb dX5_house_120 (by decide) ?_
        refine lv_iload_n hx hb dX5_house_121 rfl (lv_at hl 1 rfl) ?_
        refine cl_ip (cl_run (rest := []) F hW e_X5_99 (m_groundOf hI l hN hV0 hk (by omega) (by omega) j (by omega)) ⟨Nat.le_of_ble_eq_true rfl, Nat.le_of_ble_eq_true rfl⟩ (by omega) g136 rfl rfl rfl hl (Nat.le_of_ble_eq_true rfl) dX5_house_122 ⟨Nat.zero_le _, Nat.zero_le _⟩) hW (fun H locs hW => ?_)
        exact rt_ie F hr hlk hW (by unfold r_house; rw [inR_j hj (by omega), if_pos rfl, if_pos hin8, nI_clamp (by omega), nI_clamp (by omega)]; first | rfl | (show b2 (lst (AL S) j) = (if lst (AL S) j = true then nI 1 else nI 0); cases lst (AL S) j <;> rfl)) ⟨(modX_tr hX (fun _ _ => trivial)), off_rf⟩ dX5_house_125
    · skip
      have hout : w.toInt < 0 ∨ 7 < w.toInt := by
        rcases Int.lt_or_le w.toInt 0 with q | q
        · exact Or.inl q
        · exact Or.inr (Int.not_le.mp (fun z => hin8 (decide_eq_true ⟨q, by omega⟩)))
      refine lv_tableOut (tgt := 126) hx hb dX5_house_11 hout (by decide) ?_
      refine lv_bipush (v := (-2)) hx hb dX5_house_126 (by decide) ?_
      exact rt_ie F hr hlk hW (by unfold r_house; rw [inR_j hj (by omega), if_pos rfl, if_neg hin8]) ⟨(modX_tr hX (fun _ _ => trivial)), off_rf⟩ dX5_house_128
  · skip
    refine lv_iconst (v := (-1)) hx hb dX5_house_8 (by decide) ?_
    exact rt_ie F hr hlk hW (by unfold r_house; rw [‹inR h (Ln (AL S)) = false›]; rfl) ⟨(modX_tr hX (fun _ _ => trivial)), off_rf⟩ dX5_house_9

set_option maxHeartbeats 4000000 in
set_option maxRecDepth 100000 in
theorem m_keepAct {cx : CX} (hI : xI cx) (l : Launch) {μ : ME} {S : AS} {B : Nat} {Tr : (Nat → Int32) → Prop} (hN : 149 ≤ xN cx) (hX : modX cx μ S Tr) (hA : aok S B) (hMo : mok S) (hB : B < 800000) : MT cx l yX5_keepAct cX5_keepAct 2 none 0 0 [.ref (xa cx 136)] μ (Qv cx (fun μ1 => modX cx μ1 (uL S (AL S) (pushP (AP S) (AL S)) (min (Az S + 1) 14)) Tr ∧ off 136 13 μ μ1)) := by
  refine mt_of hI (by decide) (Nat.le_of_ble_eq_true rfl) ?_
  intro p e s m below meth c ls F hr hlk hW hl
  have hx := F.1.1
  have hb := F.1.2.1
  have hts := F.1.2.2.2.2
  obtain ⟨rh, nx, f1, fn, frd, ft, fo, fa, frw, fh, fu, fb, fz, fkp, g136, g137, g138, g139, g140, g141, g142, g143, g144, g145, g146, g147, g148, hg, hv, ht, hnx, hrw, hse, hkp, hTr⟩ := id hX
  have hk := hA.2.1
  have hn6 := hk.1
  have hk4 := hk.2.2.2.1
  have hU := lok_U hk
  have hV0 := modX_V0 hX
  have hl : lv_has ls 2 [(0, .ref (xa cx 136))] := hl
  refine lv_iconst (v := nI 0) hx hb dX5_keepAct_0 (by decide) ?_
  refine lv_istore_n (lv' := [(1, .int (nI 0)), (0, .ref (xa cx 136))]) hx hb dX5_keepAct_1 rfl hl (by decide) rfl (fun ls hl => ?_)
  have LOOP : ∀ (d i : Nat) (q : Nat → Int32) (μ1 : ME) (H : Heap) (locs : List Loc) (ls : Array Slot), i + d = 31 → (μ1 143 = .inl (xT cx 0, 434, .inl q)) → (∀ z, ¬ z = 143 → μ1 z = μ z) → (∀ z, (z < 31 * nx ∨ 31 * nx + 31 ≤ z) → q z = frw z) → (∀ z, z < i → q (31 * nx + z) = fn z) → St cx s μ1 H locs → lv_has ls 2 [(0, .ref (xa cx 136)), (1, .int (nI i))] → W p l e { frames := 0, cells := 0, slots := 0, locals := 0 } s m [.ref (xa cx 136)].toArray below meth c H locs 0 0 (MQ below (Qv cx (fun μ1 => modX cx μ1 (uL S (AL S) (pushP (AP S) (AL S)) (min (Az S + 1) 14)) Tr ∧ off 136 13 μ μ1)) [.ref (xa cx 136)].toArray s 0 0 (xA cx)) (F0 m 2 ls []) := by
    intro d
    induction d with
    | zero =>
      intro i q μ1 H locs ls hid hq hqo hq0 hq1 hW hl
      have k136 := (hqo 136 (by omega)).trans g136
      have k137 := (hqo 137 (by omega)).trans g137
      have k138 := (hqo 138 (by omega)).trans g138
      have k139 := (hqo 139 (by omega)).trans g139
      have k140 := (hqo 140 (by omega)).trans g140
      have k141 := (hqo 141 (by omega)).trans g141
      have k142 := (hqo 142 (by omega)).trans g142
      have k144 := (hqo 144 (by omega)).trans g144
      have k145 := (hqo 145 (by omega)).trans g145
      have k146 := (hqo 146 (by omega)).trans g146
      have k147 := (hqo 147 (by omega)).trans g147
      have k148 := (hqo 148 (by omega)).trans g148
      refine lv_iload_n hx hb dX5_keepAct_2 rfl (lv_at hl 1 rfl) ?_
      refine lv_bipush (v := nI 31) hx hb dX5_keepAct_3 (by decide) ?_
      refine nv_cge (tgt := 34) F (by omega) (by omega) dX5_keepAct_5 (by decide) (fun c_1 => ?_) (fun c_1 => ?_)
      · skip
        refine lv_aload_n hx hb dX5_keepAct_34 rfl (lv_at hl 0 rfl) ?_
        refine lv_aload_n hx hb dX5_keepAct_35 rfl (lv_at hl 0 rfl) ?_
        refine nv_get F hW (by omega) k136 rfl iX5 10 (by decide) tw_639 rfl dX5_keepAct_36 ?_
        refine lv_iconst (v := nI 1) hx hb dX5_keepAct_39 (by decide) ?_
        refine nv_add F dX5_keepAct_40 ?_
        refine lv_bipush (v := nI 14) hx hb dX5_keepAct_41 (by decide) ?_
        refine nv_rem F (by omega) (by omega) (by omega) dX5_keepAct_43 ?_
        refine nv_put F hW (by omega) k136 rfl iX5 tyX5 tyX5_ok nmX5 10 (by decide) tw_639 rfl rfl rfl (Nat.le_of_ble_eq_true rfl) dX5_keepAct_44 (fun H locs hW => ?_)
        obtain ⟨μ2, eμ2⟩ : ∃ zz9 : ME, zz9 = va_up μ1 136 (.inr (5, [.int (nI (Ln (AL S))), .ref (xa cx 137), .ref (xa cx 138), .ref (xa cx 139), .int rh, .ref (xa cx 140), .int (nI (An S)), .ref (xa cx 141), .ref (xa cx 142), .int (nI (Az S)), .int (nI ((nx + 1) % 14)), .ref (xa cx 143), .int (nI (Ay S)), .ref (xa cx 144), .ref (xa cx 145), .ref (xa cx 146), .long (Ad S), .ref (xa cx 147), .ref (xa cx 148)])) := ⟨_, rfl⟩
        have hW : St cx s μ2 H locs := by rw [eμ2]; exact hW
        have h136_2 : μ2 136 = .inr (5, [.int (nI (Ln (AL S))), .ref (xa cx 137), .ref (xa cx 138), .ref (xa cx 139), .int rh, .ref (xa cx 140), .int (nI (An S)), .ref (xa cx 141), .ref (xa cx 142), .int (nI (Az S)), .int (nI ((nx + 1) % 14)), .ref (xa cx 143), .int (nI (Ay S)), .ref (xa cx 144), .ref (xa cx 145), .ref (xa cx 146), .long (Ad S), .ref (xa cx 147), .ref (xa cx 148)]) := by rw [eμ2, va_up_self]
        have h137_2 := (congrFun eμ2 137).trans ((va_up_ne _ _ (by omega)).trans k137)
        have h138_2 := (congrFun eμ2 138).trans ((va_up_ne _ _ (by omega)).trans k138)
        have h139_2 := (congrFun eμ2 139).trans ((va_up_ne _ _ (by omega)).trans k139)
        have h140_2 := (congrFun eμ2 140).trans ((va_up_ne _ _ (by omega)).trans k140)
        have h141_2 := (congrFun eμ2 141).trans ((va_up_ne _ _ (by omega)).trans k141)
        have h142_2 := (congrFun eμ2 142).trans ((va_up_ne _ _ (by omega)).trans k142)
        have h143_2 := (congrFun eμ2 143).trans ((va_up_ne _ _ (by omega)).trans hq)
        have h144_2 := (congrFun eμ2 144).trans ((va_up_ne _ _ (by omega)).trans k144)
        have h145_2 := (congrFun eμ2 145).trans ((va_up_ne _ _ (by omega)).trans k145)
        have h146_2 := (congrFun eμ2 146).trans ((va_up_ne _ _ (by omega)).trans k146)
        have h147_2 := (congrFun eμ2 147).trans ((va_up_ne _ _ (by omega)).trans k147)
        have h148_2 := (congrFun eμ2 148).trans ((va_up_ne _ _ (by omega)).trans k148)
        refine lv_aload_n hx hb dX5_keepAct_47 rfl (lv_at hl 0 rfl) ?_
        refine lv_aload_n hx hb dX5_keepAct_48 rfl (lv_at hl 0 rfl) ?_
        refine nv_get F hW (by omega) h136_2 rfl iX5 9 (by decide) tw_638 rfl dX5_keepAct_49 ?_
        refine lv_bipush (v := nI 14) hx hb dX5_keepAct_52 (by decide) ?_
        refine nv_cge (tgt := 66) F (by have := hA.2.2.1.1; omega) (by omega) dX5_keepAct_54 (by decide) (fun c_3 => ?_) (fun c_3 => ?_)
        · skip
          refine lv_bipush (v := nI 14) hx hb dX5_keepAct_66 (by decide) ?_
          refine nv_put F hW (by omega) h136_2 rfl iX5 tyX5 tyX5_ok nmX5 9 (by decide) tw_638 rfl rfl rfl (Nat.le_of_ble_eq_true rfl) dX5_keepAct_68 (fun H locs hW => ?_)
          obtain ⟨μ4, eμ4⟩ : ∃ zz9 : ME, zz9 = va_up μ2 136 (.inr (5, [.int (nI (Ln (AL S))), .ref (xa cx 137), .ref (xa cx 138), .ref (xa cx 139), .int rh, .ref (xa cx 140), .int (nI (An S)), .ref (xa cx 141), .ref (xa cx 142), .int (nI 14), .int (nI ((nx + 1) % 14)), .ref (xa cx 143), .int (nI (Ay S)), .ref (xa cx 144), .ref (xa cx 145), .ref (xa cx 146), .long (Ad S), .ref (xa cx 147), .ref (xa cx 148)])) := ⟨_, rfl⟩
          have hW : St cx s μ4 H locs := by rw [eμ4]; exact hW
          have h136_4 : μ4 136 = .inr (5, [.int (nI (Ln (AL S))), .ref (xa cx 137), .ref (xa cx 138), .ref (xa cx 139), .int rh, .ref (xa cx 140), .int (nI (An S)), .ref (xa cx 141), .ref (xa cx 142), .int (nI 14), .int (nI ((nx + 1) % 14)), .ref (xa cx 143), .int (nI (Ay S)), .ref (xa cx 144), .ref (xa cx 145), .ref (xa cx 146), .long (Ad S), .ref (xa cx 147), .ref (xa cx 148)]) := by rw [eμ4, va_up_self]
          have h137_4 := (congrFun eμ4 137).trans ((va_up_ne _ _ (by omega)).trans h137_2)
          have h138_4 := (congrFun eμ4 138).trans ((va_up_ne _ _ (by omega)).trans h138_2)
          have h139_4 := (congrFun eμ4 139).trans ((va_up_ne _ _ (by omega)).trans h139_2)
          have h140_4 := (congrFun eμ4 140).trans ((va_up_ne _ _ (by omega)).trans h140_2)
          have h141_4 := (congrFun eμ4 141).trans ((va_up_ne _ _ (by omega)).trans h141_2)
          have h142_4 := (congrFun eμ4 142).trans ((va_up_ne _ _ (by omega)).trans h142_2)
          have h143_4 := (congrFun eμ4 143).trans ((va_up_ne _ _ (by omega)).trans h143_2)
          have h144_4 := (congrFun eμ4 144).trans ((va_up_ne _ _ (by omega)).trans h144_2)
          have h145_4 := (congrFun eμ4 145).trans ((va_up_ne _ _ (by omega)).trans h145_2)
          have h146_4 := (congrFun eμ4 146).trans ((va_up_ne _ _ (by omega)).trans h146_2)
          have h147_4 := (congrFun eμ4 147).trans ((va_up_ne _ _ (by omega)).trans h147_2)
          have h148_4 := (congrFun eμ4 148).trans ((va_up_ne _ _ (by omega)).trans h148_2)
          have hz14 := hA.2.2.1.1
          have hRW : ∀ k, k < min (Az S + 1) 14 → lv q (31 * (((nx + 1) % 14 + 13 - k) % 14)) (pushP (AP S) (AL S) k) := by
            intro k hk9
            unfold pushP
            by_cases e9 : k = 0
            · subst e9
              rw [if_pos rfl, show ((nx + 1) % 14 + 13 - 0) % 14 = nx by omega]
              exact lv_move hv hn6 (fun z hz => by rw [hq1 z (by omega), Nat.zero_add])
            · rw [if_neg e9]
              have hx := hrw (k - 1) (by omega)
              rw [show (nx + 13 - (k - 1)) % 14 = ((nx + 1) % 14 + 13 - k) % 14 by omega] at hx
              exact lv_cong hx (by rw [(hMo.1 (k - 1) (by omega)).1]; exact hn6) (fun z h1 h2 => hq0 z (by omega))
          exact rt_v F hr hlk hW ⟨⟨rh, (nx + 1) % 14, f1, fn, frd, ft, fo, fa, q, fh, fu, fb, fz, fkp, by show _ = Sum.inr (5, [_, _, _, _, _, _, _, _, _, Value.int (nI (min (Az S + 1) 14)), _, _, _, _, _, _, _, _, _]); rw [show min (Az S + 1) 14 = 14 by omega]; exact h136_4, h137_4, h138_4, h139_4, h140_4, h141_4, h142_4, h143_4, h144_4, h145_4, h146_4, h147_4, h148_4, hg, hv, ht, by omega, hRW, hse, hkp, hTr⟩, (fun z hz => by rw [eμ4, va_up_ne _ _ (by omega)]; rw [eμ2, va_up_ne _ _ (by omega)]; rw [hqo z (by omega)])⟩ dX5_keepAct_71
        · skip
          refine lv_aload_n hx hb dX5_keepAct_57 rfl (lv_at hl 0 rfl) ?_
          refine nv_get F hW (by omega) h136_2 rfl iX5 9 (by decide) tw_638 rfl dX5_keepAct_58 ?_
          refine lv_iconst (v := nI 1) hx hb dX5_keepAct_61 (by decide) ?_
          refine nv_add F dX5_keepAct_62 ?_
          refine lv_goto (tgt := 68) hx hb dX5_keepAct_63 (by decide) ?_
          refine nv_put F hW (by omega) h136_2 rfl iX5 tyX5 tyX5_ok nmX5 9 (by decide) tw_638 rfl rfl rfl (Nat.le_of_ble_eq_true rfl) dX5_keepAct_68 (fun H locs hW => ?_)
          obtain ⟨μ5, eμ5⟩ : ∃ zz9 : ME, zz9 = va_up μ2 136 (.inr (5, [.int (nI (Ln (AL S))), .ref (xa cx 137), .ref (xa cx 138), .ref (xa cx 139), .int rh, .ref (xa cx 140), .int (nI (An S)), .ref (xa cx 141), .ref (xa cx 142), .int (nI ((Az S) + 1)), .int (nI ((nx + 1) % 14)), .ref (xa cx 143), .int (nI (Ay S)), .ref (xa cx 144), .ref (xa cx 145), .ref (xa cx 146), .long (Ad S), .ref (xa cx 147), .ref (xa cx 148)])) := ⟨_, rfl⟩
          have hW : St cx s μ5 H locs := by rw [eμ5]; exact hW
          have h136_5 : μ5 136 = .inr (5, [.int (nI (Ln (AL S))), .ref (xa cx 137), .ref (xa cx 138), .ref (xa cx 139), .int rh, .ref (xa cx 140), .int (nI (An S)), .ref (xa cx 141), .ref (xa cx 142), .int (nI ((Az S) + 1)), .int (nI ((nx + 1) % 14)), .ref (xa cx 143), .int (nI (Ay S)), .ref (xa cx 144), .ref (xa cx 145), .ref (xa cx 146), .long (Ad S), .ref (xa cx 147), .ref (xa cx 148)]) := by rw [eμ5, va_up_self]
          have h137_5 := (congrFun eμ5 137).trans ((va_up_ne _ _ (by omega)).trans h137_2)
          have h138_5 := (congrFun eμ5 138).trans ((va_up_ne _ _ (by omega)).trans h138_2)
          have h139_5 := (congrFun eμ5 139).trans ((va_up_ne _ _ (by omega)).trans h139_2)
          have h140_5 := (congrFun eμ5 140).trans ((va_up_ne _ _ (by omega)).trans h140_2)
          have h141_5 := (congrFun eμ5 141).trans ((va_up_ne _ _ (by omega)).trans h141_2)
          have h142_5 := (congrFun eμ5 142).trans ((va_up_ne _ _ (by omega)).trans h142_2)
          have h143_5 := (congrFun eμ5 143).trans ((va_up_ne _ _ (by omega)).trans h143_2)
          have h144_5 := (congrFun eμ5 144).trans ((va_up_ne _ _ (by omega)).trans h144_2)
          have h145_5 := (congrFun eμ5 145).trans ((va_up_ne _ _ (by omega)).trans h145_2)
          have h146_5 := (congrFun eμ5 146).trans ((va_up_ne _ _ (by omega)).trans h146_2)
          have h147_5 := (congrFun eμ5 147).trans ((va_up_ne _ _ (by omega)).trans h147_2)
          have h148_5 := (congrFun eμ5 148).trans ((va_up_ne _ _ (by omega)).trans h148_2)
          have hz14 := hA.2.2.1.1
          have hRW : ∀ k, k < min (Az S + 1) 14 → lv q (31 * (((nx + 1) % 14 + 13 - k) % 14)) (pushP (AP S) (AL S) k) := by
            intro k hk9
            unfold pushP
            by_cases e9 : k = 0
            · subst e9
              rw [if_pos rfl, show ((nx + 1) % 14 + 13 - 0) % 14 = nx by omega]
              exact lv_move hv hn6 (fun z hz => by rw [hq1 z (by omega), Nat.zero_add])
            · rw [if_neg e9]
              have hx := hrw (k - 1) (by omega)
              rw [show (nx + 13 - (k - 1)) % 14 = ((nx + 1) % 14 + 13 - k) % 14 by omega] at hx
              exact lv_cong hx (by rw [(hMo.1 (k - 1) (by omega)).1]; exact hn6) (fun z h1 h2 => hq0 z (by omega))
          exact rt_v F hr hlk hW ⟨⟨rh, (nx + 1) % 14, f1, fn, frd, ft, fo, fa, q, fh, fu, fb, fz, fkp, by show _ = Sum.inr (5, [_, _, _, _, _, _, _, _, _, Value.int (nI (min (Az S + 1) 14)), _, _, _, _, _, _, _, _, _]); rw [show min (Az S + 1) 14 = (Az S) + 1 by omega]; exact h136_5, h137_5, h138_5, h139_5, h140_5, h141_5, h142_5, h143_5, h144_5, h145_5, h146_5, h147_5, h148_5, hg, hv, ht, by omega, hRW, hse, hkp, hTr⟩, (fun z hz => by rw [eμ5, va_up_ne _ _ (by omega)]; rw [eμ2, va_up_ne _ _ (by omega)]; rw [hqo z (by omega)])⟩ dX5_keepAct_71
      · skip
        exact absurd c_1 (by omega)
    | succ d ih =>
      intro i q μ1 H locs ls hid hq hqo hq0 hq1 hW hl
      have k136 := (hqo 136 (by omega)).trans g136
      have k137 := (hqo 137 (by omega)).trans g137
      have k138 := (hqo 138 (by omega)).trans g138
      have k139 := (hqo 139 (by omega)).trans g139
      have k140 := (hqo 140 (by omega)).trans g140
      have k141 := (hqo 141 (by omega)).trans g141
      have k142 := (hqo 142 (by omega)).trans g142
      have k144 := (hqo 144 (by omega)).trans g144
      have k145 := (hqo 145 (by omega)).trans g145
      have k146 := (hqo 146 (by omega)).trans g146
      have k147 := (hqo 147 (by omega)).trans g147
      have k148 := (hqo 148 (by omega)).trans g148
      refine lv_iload_n hx hb dX5_keepAct_2 rfl (lv_at hl 1 rfl) ?_
      refine lv_bipush (v := nI 31) hx hb dX5_keepAct_3 (by decide) ?_
      refine nv_cge (tgt := 34) F (by omega) (by omega) dX5_keepAct_5 (by decide) (fun c_6 => ?_) (fun c_6 => ?_)
      · skip
        exact absurd c_6 (by omega)
      · skip
        refine lv_aload_n hx hb dX5_keepAct_8 rfl (lv_at hl 0 rfl) ?_
        refine nv_get F hW (by omega) k136 rfl iX5 11 (by decide) tw_640 rfl dX5_keepAct_9 ?_
        refine lv_bipush (v := nI 31) hx hb dX5_keepAct_12 (by decide) ?_
        refine lv_aload_n hx hb dX5_keepAct_14 rfl (lv_at hl 0 rfl) ?_
        refine nv_get F hW (by omega) k136 rfl iX5 10 (by decide) tw_639 rfl dX5_keepAct_15 ?_
        refine nv_mul F dX5_keepAct_18 ?_
        refine lv_iload_n hx hb dX5_keepAct_19 rfl (lv_at hl 1 rfl) ?_
        refine nv_add F dX5_keepAct_20 ?_
        refine lv_aload_n hx hb dX5_keepAct_21 rfl (lv_at hl 0 rfl) ?_
        refine nv_get F hW (by omega) k136 rfl iX5 2 (by decide) tw_631 rfl dX5_keepAct_22 ?_
        refine lv_iload_n hx hb dX5_keepAct_25 rfl (lv_at hl 1 rfl) ?_
        refine nv_ialdN (x := ((fn i))) F hW (by omega) k138 (by omega) (by decide) rfl dX5_keepAct_26 ?_
        refine nv_iastN F hW (by omega) hq (by omega) (by decide) dX5_keepAct_27 (fun H locs hW => ?_)
        obtain ⟨μ7, eμ7⟩ : ∃ zz9 : ME, zz9 = va_up μ1 143 (.inl (xT cx 0, 434, .inl (upd q ((31 * nx) + i) ((fn i))))) := ⟨_, rfl⟩
        have hW : St cx s μ7 H locs := by rw [eμ7]; exact hW
        have h136_7 := (congrFun eμ7 136).trans ((va_up_ne _ _ (by omega)).trans k136)
        have h137_7 := (congrFun eμ7 137).trans ((va_up_ne _ _ (by omega)).trans k137)
        have h138_7 := (congrFun eμ7 138).trans ((va_up_ne _ _ (by omega)).trans k138)
        have h139_7 := (congrFun eμ7 139).trans ((va_up_ne _ _ (by omega)).trans k139)
        have h140_7 := (congrFun eμ7 140).trans ((va_up_ne _ _ (by omega)).trans k140)
        have h141_7 := (congrFun eμ7 141).trans ((va_up_ne _ _ (by omega)).trans k141)
        have h142_7 := (congrFun eμ7 142).trans ((va_up_ne _ _ (by omega)).trans k142)
        have h143_7 : μ7 143 = .inl (xT cx 0, 434, .inl (upd q ((31 * nx) + i) ((fn i)))) := by rw [eμ7, va_up_self]
        have h144_7 := (congrFun eμ7 144).trans ((va_up_ne _ _ (by omega)).trans k144)
        have h145_7 := (congrFun eμ7 145).trans ((va_up_ne _ _ (by omega)).trans k145)
        have h146_7 := (congrFun eμ7 146).trans ((va_up_ne _ _ (by omega)).trans k146)
        have h147_7 := (congrFun eμ7 147).trans ((va_up_ne _ _ (by omega)).trans k147)
        have h148_7 := (congrFun eμ7 148).trans ((va_up_ne _ _ (by omega)).trans k148)
        refine lv_iinc (v := ((nI (i + 1)))) (lv' := [(1, .int (nI (i + 1))), (0, .ref (xa cx 136))]) hx hb dX5_keepAct_28 hl (k := 1) rfl (nI_add _ _) (by decide) rfl (fun ls hl => ?_)
        refine lv_goto (tgt := 2) hx hb dX5_keepAct_31 (by decide) ?_
        exact ih (i + 1) _ μ7 _ _ _ (by omega) h143_7 (fun z hz => ((congrFun eμ7 z).trans (va_up_ne _ _ hz)).trans (hqo z hz)) (fun z hz => by rw [upd_ne (by omega)]; exact hq0 z hz) (fun z hz => (Nat.lt_or_ge z i).elim (fun a => by rw [upd_ne (by omega)]; exact hq1 z a) (fun a => by rw [upd_eq (by omega), show z = i by omega])) hW (lv_sub hl [1, 0] rfl)
  exact LOOP 31 0 frw μ _ _ _ (by omega) g143 (fun _ _ => rfl) (fun _ _ => rfl) (fun z hz => absurd hz (by omega)) hW (lv_sub hl [1, 0] rfl)

set_option maxHeartbeats 4000000 in
set_option maxRecDepth 100000 in
theorem x_hour {cx : CX} (hI : xI cx) (l : Launch) {μ : ME} {S : AS} {B : Nat} {Tr : (Nat → Int32) → Prop} (hN : 149 ≤ xN cx) (hX : modX cx μ S Tr) (hA : aok S B) (hMo : mok S) (hB : B < 800000) : MT cx l yX5_hour cX5_hour 1 (some .int) 4 95 [.ref (xa cx 136)] μ (Ei cx (nI (pop (hF (AL S)))) (fun μ1 => modX cx μ1 (uL S (hour (AL S)) (pushP (AP S) (AL S)) (min (Az S + 1) 14)) (fun _ => True) ∧ off 136 13 μ μ1)) := by
  refine mt_of hI (by decide) (Nat.le_of_ble_eq_true rfl) ?_
  intro p e s m below meth c ls F hr hlk hW hl
  have hx := F.1.1
  have hb := F.1.2.1
  have hts := F.1.2.2.2.2
  obtain ⟨rh, nx, f1, fn, frd, ft, fo, fa, frw, fh, fu, fb, fz, fkp, g136, g137, g138, g139, g140, g141, g142, g143, g144, g145, g146, g147, g148, hg, hv, ht, hnx, hrw, hse, hkp, hTr⟩ := id hX
  have hk := hA.2.1
  have hn6 := hk.1
  have hk4 := hk.2.2.2.1
  have hU := lok_U hk
  have hV0 := modX_V0 hX
  have hl : lv_has ls 1 [(0, .ref (xa cx 136))] := hl
  refine lv_aload_n hx hb dX5_hour_0 rfl (lv_at hl 0 rfl) ?_
  refine cl_v (cl_run (rest := []) F hW e_X5_108 (m_keepAct hI l hN hX hA hMo hB) ⟨Nat.le_of_ble_eq_true rfl, Nat.le_of_ble_eq_true rfl⟩ (by omega) g136 rfl rfl rfl hl (Nat.le_of_ble_eq_true rfl) dX5_hour_1 ⟨Nat.zero_le _, Nat.zero_le _⟩) hW (fun μ1 H locs q_1 hW => ?_)
  obtain ⟨hX_k, ho_k⟩ := q_1
  obtain ⟨rh_k, nx_k, f1_k, fn_k, frd_k, ft_k, fo_k, fa_k, frw_k, fh_k, fu_k, fb_k, fz_k, fkp_k, g136_k, g137_k, g138_k, g139_k, g140_k, g141_k, g142_k, g143_k, g144_k, g145_k, g146_k, g147_k, g148_k, hg_k, hv_k, ht_k, hnx_k, hrw_k, hse_k, hkp_k, hTr_k⟩ := id hX_k
  have g136_k : μ1 136 = .inr (5, [.int (nI (Ln (AL S))), .ref (xa cx 137), .ref (xa cx 138), .ref (xa cx 139), .int rh_k, .ref (xa cx 140), .int (nI (An S)), .ref (xa cx 141), .ref (xa cx 142), .int (nI (min (Az S + 1) 14)), .int (nI nx_k), .ref (xa cx 143), .int (nI (Ay S)), .ref (xa cx 144), .ref (xa cx 145), .ref (xa cx 146), .long (Ad S), .ref (xa cx 147), .ref (xa cx 148)]) := g136_k
  have hv_k : lv fn_k 0 (AL S) := hv_k
  have hV0_k := modX_V0 hX_k
  have hV0_k : mdV cx μ1 0 (AL S) := hV0_k
  refine lv_aload_n hx hb dX5_hour_4 rfl (lv_at hl 0 rfl) ?_
  refine lv_iconst (v := nI 0) hx hb dX5_hour_5 (by decide) ?_
  refine cl_ie (cl_run (rest := []) F hW e_X5_111 (m_hourOn hI l hN hV0_k hk (by omega) (by omega)) ⟨Nat.le_of_ble_eq_true rfl, Nat.le_of_ble_eq_true rfl⟩ (by omega) g136_k rfl rfl rfl hl (Nat.le_of_ble_eq_true rfl) dX5_hour_6 ⟨Nat.zero_le _, Nat.zero_le _⟩) hW (fun μ2 H locs q_2 hW => ?_)
  have hXn := modX_lv0 hX_k shp_hour q_2
  have hon := lvP_off q_2
  refine cl_ip (cl_runS (rest := []) F hW e_X5_114 (m_ones hI l (hF (AL S)) (hF_lt hn6)) ⟨Nat.le_of_ble_eq_true rfl, Nat.le_of_ble_eq_true rfl⟩ rfl rfl hl (Nat.le_of_ble_eq_true rfl) dX5_hour_9 ⟨Nat.zero_le _, Nat.zero_le _⟩) hW (fun H locs hW => ?_)
  exact rt_ie F hr hlk hW rfl ⟨hXn, (fun z hz => by rw [hon z (by omega)]; rw [ho_k z (by omega)])⟩ dX5_hour_12

set_option maxHeartbeats 4000000 in
set_option maxRecDepth 100000 in
theorem x_bring {cx : CX} (hI : xI cx) (l : Launch) {μ : ME} {S : AS} {B : Nat} {Tr : (Nat → Int32) → Prop} (hN : 149 ≤ xN cx) (hX : modX cx μ S Tr) (hA : aok S B) (hMo : mok S) (hB : B < 800000) (h v : Int32) : MT cx l yX5_bring cX5_bring 3 (some .int) 3 69 [.ref (xa cx 136), .int h, .int v] μ (Ei cx (r_bring S h v) (fun μ1 => modX cx μ1 (s_bring S h v) (fun _ => True) ∧ off 136 13 μ μ1)) := by
  refine mt_of hI (by decide) (Nat.le_of_ble_eq_true rfl) ?_
  intro p e s m below meth c ls F hr hlk hW hl
  have hx := F.1.1
  have hb := F.1.2.1
  have hts := F.1.2.2.2.2
  obtain ⟨rh, nx, f1, fn, frd, ft, fo, fa, frw, fh, fu, fb, fz, fkp, g136, g137, g138, g139, g140, g141, g142, g143, g144, g145, g146, g147, g148, hg, hv, ht, hnx, hrw, hse, hkp, hTr⟩ := id hX
  have hk := hA.2.1
  have hn6 := hk.1
  have hk4 := hk.2.2.2.1
  have hU := lok_U hk
  have hV0 := modX_V0 hX
  have hl : lv_has ls 3 [(0, .ref (xa cx 136)), (1, .int h), (2, .int v)] := hl
  refine lv_aload_n hx hb dX5_bring_0 rfl (lv_at hl 0 rfl) ?_
  refine lv_iload_n hx hb dX5_bring_1 rfl (lv_at hl 1 rfl) ?_
  refine cl_ip (cl_run (rest := []) F hW e_X5_91 (m_isHouse hI l hN hV0 hk (by omega) (by omega) h) ⟨Nat.le_of_ble_eq_true rfl, Nat.le_of_ble_eq_true rfl⟩ (by omega) g136 rfl rfl rfl hl (Nat.le_of_ble_eq_true rfl) dX5_bring_2 ⟨Nat.zero_le _, Nat.zero_le _⟩) hW (fun H locs hW => ?_)
  refine nv_bne (tgt := 10) F dX5_bring_5 (by decide) (fun c_1 => ?_) (fun c_1 => ?_)
  · skip
    obtain ⟨j, hj, rfl⟩ := inR_of c_1 (by omega)
    refine lv_iload_n hx hb dX5_bring_10 rfl (lv_at hl 2 rfl) ?_
    refine lv_i2l hx hb dX5_bring_11 rfl ?_
    refine lv_lconst (v := lN 1) hx hb dX5_bring_12 (by decide) ?_
    refine lv_ldc2 (v := lN 9) hx hb F.1.2.2.2.1 (hts _ tw_768) dX5_bring_13 ?_
    refine cl_ip (cl_runS (rest := []) F hW e_X5_49 (m_in hI l ((v.toInt64)) ((lN 1)) ((lN 9))) ⟨Nat.le_of_ble_eq_true rfl, Nat.le_of_ble_eq_true rfl⟩ rfl rfl hl (Nat.le_of_ble_eq_true rfl) dX5_bring_16 ⟨Nat.zero_le _, Nat.zero_le _⟩) hW (fun H locs hW => ?_)
    refine nv_top (y := ((b2 (carI v)))) (congrArg b2 (inL_car v)) ?_
    refine nv_bne (tgt := 25) F dX5_bring_19 (by decide) (fun c_2 => ?_) (fun c_2 => ?_)
    · skip
      obtain ⟨u, hu1, hu9, rfl⟩ := carI_of c_2
      refine lv_aload_n hx hb dX5_bring_25 rfl (lv_at hl 0 rfl) ?_
      refine lv_iconst (v := nI 0) hx hb dX5_bring_26 (by decide) ?_
      refine lv_iload_n hx hb dX5_bring_27 rfl (lv_at hl 1 rfl) ?_
      refine lv_iload_n hx hb dX5_bring_28 rfl (lv_at hl 2 rfl) ?_
      refine cl_ip (cl_run (rest := []) F hW e_X5_119 (m_canBring hI l hN hV0 hk (by omega) (by omega) j u (by omega) (by omega)) ⟨Nat.le_of_ble_eq_true rfl, Nat.le_of_ble_eq_true rfl⟩ (by omega) g136 rfl rfl rfl hl (Nat.le_of_ble_eq_true rfl) dX5_bring_29 ⟨Nat.zero_le _, Nat.zero_le _⟩) hW (fun H locs hW => ?_)
      refine nv_bne (tgt := 38) F dX5_bring_32 (by decide) (fun c_3 => ?_) (fun c_3 => ?_)
      · skip
        have hcan : canA (AL S) j u = true := c_3
        have hc99 := of_decide_eq_true hcan
        refine lv_aload_n hx hb dX5_bring_38 rfl (lv_at hl 0 rfl) ?_
        refine cl_v (cl_run (rest := []) F hW e_X5_108 (m_keepAct hI l hN hX hA hMo hB) ⟨Nat.le_of_ble_eq_true rfl, Nat.le_of_ble_eq_true rfl⟩ (by omega) g136 rfl rfl rfl hl (Nat.le_of_ble_eq_true rfl) dX5_bring_39 ⟨Nat.zero_le _, Nat.zero_le _⟩) hW (fun μ4 H locs q_4 hW => ?_)
        obtain ⟨hX_k, ho_k⟩ := q_4
        obtain ⟨rh_k, nx_k, f1_k, fn_k, frd_k, ft_k, fo_k, fa_k, frw_k, fh_k, fu_k, fb_k, fz_k, fkp_k, g136_k, g137_k, g138_k, g139_k, g140_k, g141_k, g142_k, g143_k, g144_k, g145_k, g146_k, g147_k, g148_k, hg_k, hv_k, ht_k, hnx_k, hrw_k, hse_k, hkp_k, hTr_k⟩ := id hX_k
        have g136_k : μ4 136 = .inr (5, [.int (nI (Ln (AL S))), .ref (xa cx 137), .ref (xa cx 138), .ref (xa cx 139), .int rh_k, .ref (xa cx 140), .int (nI (An S)), .ref (xa cx 141), .ref (xa cx 142), .int (nI (min (Az S + 1) 14)), .int (nI nx_k), .ref (xa cx 143), .int (nI (Ay S)), .ref (xa cx 144), .ref (xa cx 145), .ref (xa cx 146), .long (Ad S), .ref (xa cx 147), .ref (xa cx 148)]) := g136_k
        have hv_k : lv fn_k 0 (AL S) := hv_k
        have hV0_k := modX_V0 hX_k
        have hV0_k : mdV cx μ4 0 (AL S) := hV0_k
        refine lv_aload_n hx hb dX5_bring_42 rfl (lv_at hl 0 rfl) ?_
        refine nv_get F hW (by omega) g136_k rfl iX5 2 (by decide) tw_631 rfl dX5_bring_43 ?_
        refine lv_bipush (v := nI 6) hx hb dX5_bring_46 (by decide) ?_
        refine lv_iload_n hx hb dX5_bring_48 rfl (lv_at hl 1 rfl) ?_
        refine nv_add F dX5_bring_49 ?_
        refine lv_dup2_11 hx hb dX5_bring_50 rfl rfl ?_
        refine nv_ialdN (x := ((nI (Ls (AL S) j)))) F hW (by omega) g138_k (by omega) (by decide) (hv_k.1 j (by omega)).2.1 dX5_bring_51 ?_
        refine lv_iload_n hx hb dX5_bring_52 rfl (lv_at hl 2 rfl) ?_
        refine nv_add F dX5_bring_53 ?_
        refine nv_iastN F hW (by omega) g138_k (by omega) (by decide) dX5_bring_54 (fun H locs hW => ?_)
        obtain ⟨μ5, eμ5⟩ : ∃ zz9 : ME, zz9 = va_up μ4 138 (.inl (xT cx 0, 62, .inl (upd fn_k (6 + j) ((nI ((Ls (AL S) j) + u)))))) := ⟨_, rfl⟩
        have hW : St cx s μ5 H locs := by rw [eμ5]; exact hW
        have h136_5 := (congrFun eμ5 136).trans ((va_up_ne _ _ (by omega)).trans g136_k)
        have h137_5 := (congrFun eμ5 137).trans ((va_up_ne _ _ (by omega)).trans g137_k)
        have h138_5 : μ5 138 = .inl (xT cx 0, 62, .inl (upd fn_k (6 + j) ((nI ((Ls (AL S) j) + u))))) := by rw [eμ5, va_up_self]
        have h139_5 := (congrFun eμ5 139).trans ((va_up_ne _ _ (by omega)).trans g139_k)
        have h140_5 := (congrFun eμ5 140).trans ((va_up_ne _ _ (by omega)).trans g140_k)
        have h141_5 := (congrFun eμ5 141).trans ((va_up_ne _ _ (by omega)).trans g141_k)
        have h142_5 := (congrFun eμ5 142).trans ((va_up_ne _ _ (by omega)).trans g142_k)
        have h143_5 := (congrFun eμ5 143).trans ((va_up_ne _ _ (by omega)).trans g143_k)
        have h144_5 := (congrFun eμ5 144).trans ((va_up_ne _ _ (by omega)).trans g144_k)
        have h145_5 := (congrFun eμ5 145).trans ((va_up_ne _ _ (by omega)).trans g145_k)
        have h146_5 := (congrFun eμ5 146).trans ((va_up_ne _ _ (by omega)).trans g146_k)
        have h147_5 := (congrFun eμ5 147).trans ((va_up_ne _ _ (by omega)).trans g147_k)
        have h148_5 := (congrFun eμ5 148).trans ((va_up_ne _ _ (by omega)).trans g148_k)
        refine lv_aload_n hx hb dX5_bring_55 rfl (lv_at hl 0 rfl) ?_
        refine nv_get F hW (by omega) h136_5 rfl iX5 2 (by decide) tw_631 rfl dX5_bring_56 ?_
        refine lv_bipush (v := nI 6) hx hb dX5_bring_59 (by decide) ?_
        refine lv_iload_n hx hb dX5_bring_61 rfl (lv_at hl 1 rfl) ?_
        refine nv_add F dX5_bring_62 ?_
        refine nv_ialdN (x := ((nI (Ls (AL S) j + u)))) F hW (by omega) h138_5 (by omega) (by decide) (upd_eq rfl) dX5_bring_63 ?_
        exact rt_ie F hr hlk hW (by unfold r_bring; rw [inR_j hj (by omega), if_pos rfl, if_pos (by rw [carI_nI (by omega)]; exact decide_eq_true ⟨hu1, hu9⟩), nI_clamp (by omega), nI_clamp (by omega), hcan]; rfl) ⟨by unfold s_bring; rw [inR_j hj (by omega), carI_nI (by omega), decide_eq_true (show 1 ≤ u ∧ u ≤ 9 from ⟨hu1, hu9⟩), nI_clamp (by omega), nI_clamp (by omega), hcan, if_pos (show (true && true && true) = true from rfl), show addS (AL S) j u = sets (AL S) (va_up (Ls (AL S)) j (Ls (AL S) j + u)) by unfold addS; rw [if_pos hcan]]; exact ⟨rh_k, nx_k, f1_k, (upd fn_k (6 + j) ((nI ((Ls (AL S) j) + u)))), frd_k, ft_k, fo_k, fa_k, frw_k, fh_k, fu_k, fb_k, fz_k, fkp_k, h136_5, h137_5, h138_5, h139_5, h140_5, h141_5, h142_5, h143_5, h144_5, h145_5, h146_5, h147_5, h148_5, hg_k, (lv_s (o := 0) hv_k hn6 hj), ht_k, hnx_k, hrw_k, hse_k, hkp_k, trivial⟩, (fun z hz => by rw [eμ5, va_up_ne _ _ (by omega)]; rw [ho_k z (by omega)])⟩ dX5_bring_64
      · skip
        have hcan : canA (AL S) j u = false := c_3
        refine lv_bipush (v := (-4)) hx hb dX5_bring_35 (by decide) ?_
        exact rt_ie F hr hlk hW (by unfold r_bring; rw [inR_j hj (by omega), if_pos rfl, if_pos (by rw [carI_nI (by omega)]; exact decide_eq_true ⟨hu1, hu9⟩), nI_clamp (by omega), nI_clamp (by omega), hcan]; rfl) ⟨by unfold s_bring; rw [nI_clamp (by omega), nI_clamp (by omega), hcan, Bool.and_false]; exact (modX_tr hX (fun _ _ => trivial)), off_rf⟩ dX5_bring_37
    · skip
      refine lv_bipush (v := (-2)) hx hb dX5_bring_22 (by decide) ?_
      exact rt_ie F hr hlk hW (by unfold r_bring; rw [inR_j hj (by omega), if_pos rfl, ‹carI v = false›]; rfl) ⟨by unfold s_bring; rw [‹carI v = false›, Bool.and_false]; exact (modX_tr hX (fun _ _ => trivial)), off_rf⟩ dX5_bring_24
  · skip
    refine lv_iconst (v := (-1)) hx hb dX5_bring_8 (by decide) ?_
    exact rt_ie F hr hlk hW (by unfold r_bring; rw [‹inR h (Ln (AL S)) = false›]; rfl) ⟨by unfold s_bring; rw [‹inR h (Ln (AL S)) = false›]; exact (modX_tr hX (fun _ _ => trivial)), off_rf⟩ dX5_bring_9

set_option maxHeartbeats 4000000 in
set_option maxRecDepth 100000 in
theorem x_take {cx : CX} (hI : xI cx) (l : Launch) {μ : ME} {S : AS} {B : Nat} {Tr : (Nat → Int32) → Prop} (hN : 149 ≤ xN cx) (hX : modX cx μ S Tr) (hA : aok S B) (hMo : mok S) (hB : B < 800000) (h v : Int32) : MT cx l yX5_take cX5_take 3 (some .int) 3 69 [.ref (xa cx 136), .int h, .int v] μ (Ei cx (r_take S h v) (fun μ1 => modX cx μ1 (s_take S h v) (fun _ => True) ∧ off 136 13 μ μ1)) := by
  refine mt_of hI (by decide) (Nat.le_of_ble_eq_true rfl) ?_
  intro p e s m below meth c ls F hr hlk hW hl
  have hx := F.1.1
  have hb := F.1.2.1
  have hts := F.1.2.2.2.2
  obtain ⟨rh, nx, f1, fn, frd, ft, fo, fa, frw, fh, fu, fb, fz, fkp, g136, g137, g138, g139, g140, g141, g142, g143, g144, g145, g146, g147, g148, hg, hv, ht, hnx, hrw, hse, hkp, hTr⟩ := id hX
  have hk := hA.2.1
  have hn6 := hk.1
  have hk4 := hk.2.2.2.1
  have hU := lok_U hk
  have hV0 := modX_V0 hX
  have hl : lv_has ls 3 [(0, .ref (xa cx 136)), (1, .int h), (2, .int v)] := hl
  refine lv_aload_n hx hb dX5_take_0 rfl (lv_at hl 0 rfl) ?_
  refine lv_iload_n hx hb dX5_take_1 rfl (lv_at hl 1 rfl) ?_
  refine cl_ip (cl_run (rest := []) F hW e_X5_91 (m_isHouse hI l hN hV0 hk (by omega) (by omega) h) ⟨Nat.le_of_ble_eq_true rfl, Nat.le_of_ble_eq_true rfl⟩ (by omega) g136 rfl rfl rfl hl (Nat.le_of_ble_eq_true rfl) dX5_take_2 ⟨Nat.zero_le _, Nat.zero_le _⟩) hW (fun H locs hW => ?_)
  refine nv_bne (tgt := 10) F dX5_take_5 (by decide) (fun c_1 => ?_) (fun c_1 => ?_)
  · skip
    obtain ⟨j, hj, rfl⟩ := inR_of c_1 (by omega)
    refine lv_iload_n hx hb dX5_take_10 rfl (lv_at hl 2 rfl) ?_
    refine lv_i2l hx hb dX5_take_11 rfl ?_
    refine lv_lconst (v := lN 1) hx hb dX5_take_12 (by decide) ?_
    refine lv_ldc2 (v := lN 9) hx hb F.1.2.2.2.1 (hts _ tw_768) dX5_take_13 ?_
    refine cl_ip (cl_runS (rest := []) F hW e_X5_49 (m_in hI l ((v.toInt64)) ((lN 1)) ((lN 9))) ⟨Nat.le_of_ble_eq_true rfl, Nat.le_of_ble_eq_true rfl⟩ rfl rfl hl (Nat.le_of_ble_eq_true rfl) dX5_take_16 ⟨Nat.zero_le _, Nat.zero_le _⟩) hW (fun H locs hW => ?_)
    refine nv_top (y := ((b2 (carI v)))) (congrArg b2 (inL_car v)) ?_
    refine nv_bne (tgt := 25) F dX5_take_19 (by decide) (fun c_2 => ?_) (fun c_2 => ?_)
    · skip
      obtain ⟨u, hu1, hu9, rfl⟩ := carI_of c_2
      refine lv_aload_n hx hb dX5_take_25 rfl (lv_at hl 0 rfl) ?_
      refine lv_iconst (v := nI 0) hx hb dX5_take_26 (by decide) ?_
      refine lv_iload_n hx hb dX5_take_27 rfl (lv_at hl 1 rfl) ?_
      refine lv_iload_n hx hb dX5_take_28 rfl (lv_at hl 2 rfl) ?_
      refine cl_ip (cl_run (rest := []) F hW e_X5_123 (m_canTake hI l hN hV0 hk (by omega) (by omega) j u (by omega) (by omega)) ⟨Nat.le_of_ble_eq_true rfl, Nat.le_of_ble_eq_true rfl⟩ (by omega) g136 rfl rfl rfl hl (Nat.le_of_ble_eq_true rfl) dX5_take_29 ⟨Nat.zero_le _, Nat.zero_le _⟩) hW (fun H locs hW => ?_)
      refine nv_bne (tgt := 38) F dX5_take_32 (by decide) (fun c_3 => ?_) (fun c_3 => ?_)
      · skip
        have hcan : canS (AL S) j u = true := c_3
        have hc99 := of_decide_eq_true hcan
        refine lv_aload_n hx hb dX5_take_38 rfl (lv_at hl 0 rfl) ?_
        refine cl_v (cl_run (rest := []) F hW e_X5_108 (m_keepAct hI l hN hX hA hMo hB) ⟨Nat.le_of_ble_eq_true rfl, Nat.le_of_ble_eq_true rfl⟩ (by omega) g136 rfl rfl rfl hl (Nat.le_of_ble_eq_true rfl) dX5_take_39 ⟨Nat.zero_le _, Nat.zero_le _⟩) hW (fun μ4 H locs q_4 hW => ?_)
        obtain ⟨hX_k, ho_k⟩ := q_4
        obtain ⟨rh_k, nx_k, f1_k, fn_k, frd_k, ft_k, fo_k, fa_k, frw_k, fh_k, fu_k, fb_k, fz_k, fkp_k, g136_k, g137_k, g138_k, g139_k, g140_k, g141_k, g142_k, g143_k, g144_k, g145_k, g146_k, g147_k, g148_k, hg_k, hv_k, ht_k, hnx_k, hrw_k, hse_k, hkp_k, hTr_k⟩ := id hX_k
        have g136_k : μ4 136 = .inr (5, [.int (nI (Ln (AL S))), .ref (xa cx 137), .ref (xa cx 138), .ref (xa cx 139), .int rh_k, .ref (xa cx 140), .int (nI (An S)), .ref (xa cx 141), .ref (xa cx 142), .int (nI (min (Az S + 1) 14)), .int (nI nx_k), .ref (xa cx 143), .int (nI (Ay S)), .ref (xa cx 144), .ref (xa cx 145), .ref (xa cx 146), .long (Ad S), .ref (xa cx 147), .ref (xa cx 148)]) := g136_k
        have hv_k : lv fn_k 0 (AL S) := hv_k
        have hV0_k := modX_V0 hX_k
        have hV0_k : mdV cx μ4 0 (AL S) := hV0_k
        refine lv_aload_n hx hb dX5_take_42 rfl (lv_at hl 0 rfl) ?_
        refine nv_get F hW (by omega) g136_k rfl iX5 2 (by decide) tw_631 rfl dX5_take_43 ?_
        refine lv_bipush (v := nI 6) hx hb dX5_take_46 (by decide) ?_
        refine lv_iload_n hx hb dX5_take_48 rfl (lv_at hl 1 rfl) ?_
        refine nv_add F dX5_take_49 ?_
        refine lv_dup2_11 hx hb dX5_take_50 rfl rfl ?_
        refine nv_ialdN (x := ((nI (Ls (AL S) j)))) F hW (by omega) g138_k (by omega) (by decide) (hv_k.1 j (by omega)).2.1 dX5_take_51 ?_
        refine lv_iload_n hx hb dX5_take_52 rfl (lv_at hl 2 rfl) ?_
        refine nv_sub F hc99.2.2 dX5_take_53 ?_
        refine nv_iastN F hW (by omega) g138_k (by omega) (by decide) dX5_take_54 (fun H locs hW => ?_)
        obtain ⟨μ5, eμ5⟩ : ∃ zz9 : ME, zz9 = va_up μ4 138 (.inl (xT cx 0, 62, .inl (upd fn_k (6 + j) ((nI ((Ls (AL S) j) - u)))))) := ⟨_, rfl⟩
        have hW : St cx s μ5 H locs := by rw [eμ5]; exact hW
        have h136_5 := (congrFun eμ5 136).trans ((va_up_ne _ _ (by omega)).trans g136_k)
        have h137_5 := (congrFun eμ5 137).trans ((va_up_ne _ _ (by omega)).trans g137_k)
        have h138_5 : μ5 138 = .inl (xT cx 0, 62, .inl (upd fn_k (6 + j) ((nI ((Ls (AL S) j) - u))))) := by rw [eμ5, va_up_self]
        have h139_5 := (congrFun eμ5 139).trans ((va_up_ne _ _ (by omega)).trans g139_k)
        have h140_5 := (congrFun eμ5 140).trans ((va_up_ne _ _ (by omega)).trans g140_k)
        have h141_5 := (congrFun eμ5 141).trans ((va_up_ne _ _ (by omega)).trans g141_k)
        have h142_5 := (congrFun eμ5 142).trans ((va_up_ne _ _ (by omega)).trans g142_k)
        have h143_5 := (congrFun eμ5 143).trans ((va_up_ne _ _ (by omega)).trans g143_k)
        have h144_5 := (congrFun eμ5 144).trans ((va_up_ne _ _ (by omega)).trans g144_k)
        have h145_5 := (congrFun eμ5 145).trans ((va_up_ne _ _ (by omega)).trans g145_k)
        have h146_5 := (congrFun eμ5 146).trans ((va_up_ne _ _ (by omega)).trans g146_k)
        have h147_5 := (congrFun eμ5 147).trans ((va_up_ne _ _ (by omega)).trans g147_k)
        have h148_5 := (congrFun eμ5 148).trans ((va_up_ne _ _ (by omega)).trans g148_k)
        refine lv_aload_n hx hb dX5_take_55 rfl (lv_at hl 0 rfl) ?_
        refine nv_get F hW (by omega) h136_5 rfl iX5 2 (by decide) tw_631 rfl dX5_take_56 ?_
        refine lv_bipush (v := nI 6) hx hb dX5_take_59 (by decide) ?_
        refine lv_iload_n hx hb dX5_take_61 rfl (lv_at hl 1 rfl) ?_
        refine nv_add F dX5_take_62 ?_
        refine nv_ialdN (x := ((nI (Ls (AL S) j - u)))) F hW (by omega) h138_5 (by omega) (by decide) (upd_eq rfl) dX5_take_63 ?_
        exact rt_ie F hr hlk hW (by unfold r_take; rw [inR_j hj (by omega), if_pos rfl, if_pos (by rw [carI_nI (by omega)]; exact decide_eq_true ⟨hu1, hu9⟩), nI_clamp (by omega), nI_clamp (by omega), hcan]; rfl) ⟨by unfold s_take; rw [inR_j hj (by omega), carI_nI (by omega), decide_eq_true (show 1 ≤ u ∧ u ≤ 9 from ⟨hu1, hu9⟩), nI_clamp (by omega), nI_clamp (by omega), hcan, if_pos (show (true && true && true) = true from rfl), show subS (AL S) j u = sets (AL S) (va_up (Ls (AL S)) j (Ls (AL S) j - u)) by unfold subS; rw [if_pos hcan]]; exact ⟨rh_k, nx_k, f1_k, (upd fn_k (6 + j) ((nI ((Ls (AL S) j) - u)))), frd_k, ft_k, fo_k, fa_k, frw_k, fh_k, fu_k, fb_k, fz_k, fkp_k, h136_5, h137_5, h138_5, h139_5, h140_5, h141_5, h142_5, h143_5, h144_5, h145_5, h146_5, h147_5, h148_5, hg_k, (lv_s (o := 0) hv_k hn6 hj), ht_k, hnx_k, hrw_k, hse_k, hkp_k, trivial⟩, (fun z hz => by rw [eμ5, va_up_ne _ _ (by omega)]; rw [ho_k z (by omega)])⟩ dX5_take_64
      · skip
        have hcan : canS (AL S) j u = false := c_3
        refine lv_bipush (v := (-3)) hx hb dX5_take_35 (by decide) ?_
        exact rt_ie F hr hlk hW (by unfold r_take; rw [inR_j hj (by omega), if_pos rfl, if_pos (by rw [carI_nI (by omega)]; exact decide_eq_true ⟨hu1, hu9⟩), nI_clamp (by omega), nI_clamp (by omega), hcan]; rfl) ⟨by unfold s_take; rw [nI_clamp (by omega), nI_clamp (by omega), hcan, Bool.and_false]; exact (modX_tr hX (fun _ _ => trivial)), off_rf⟩ dX5_take_37
    · skip
      refine lv_bipush (v := (-2)) hx hb dX5_take_22 (by decide) ?_
      exact rt_ie F hr hlk hW (by unfold r_take; rw [inR_j hj (by omega), if_pos rfl, ‹carI v = false›]; rfl) ⟨by unfold s_take; rw [‹carI v = false›, Bool.and_false]; exact (modX_tr hX (fun _ _ => trivial)), off_rf⟩ dX5_take_24
  · skip
    refine lv_iconst (v := (-1)) hx hb dX5_take_8 (by decide) ?_
    exact rt_ie F hr hlk hW (by unfold r_take; rw [‹inR h (Ln (AL S)) = false›]; rfl) ⟨by unfold s_take; rw [‹inR h (Ln (AL S)) = false›]; exact (modX_tr hX (fun _ _ => trivial)), off_rf⟩ dX5_take_9

set_option maxHeartbeats 4000000 in
set_option maxRecDepth 100000 in
theorem x_deed {cx : CX} (hI : xI cx) (l : Launch) {μ : ME} {S : AS} {B : Nat} {Tr : (Nat → Int32) → Prop} (hN : 149 ≤ xN cx) (hX : modX cx μ S Tr) (hA : aok S B) (hMo : mok S) (hB : B < 800000) (h d : Int32) : MT cx l yX5_deed cX5_deed 4 (some .int) 2 46 [.ref (xa cx 136), .int h, .int d] μ (Ei cx (r_deed S h d) (fun μ1 => modX cx μ1 (s_deed S h d) (fun _ => True) ∧ off 136 13 μ μ1)) := by
  refine mt_of hI (by decide) (Nat.le_of_ble_eq_true rfl) ?_
  intro p e s m below meth c ls F hr hlk hW hl
  have hx := F.1.1
  have hb := F.1.2.1
  have hts := F.1.2.2.2.2
  obtain ⟨rh, nx, f1, fn, frd, ft, fo, fa, frw, fh, fu, fb, fz, fkp, g136, g137, g138, g139, g140, g141, g142, g143, g144, g145, g146, g147, g148, hg, hv, ht, hnx, hrw, hse, hkp, hTr⟩ := id hX
  have hk := hA.2.1
  have hn6 := hk.1
  have hk4 := hk.2.2.2.1
  have hU := lok_U hk
  have hV0 := modX_V0 hX
  have hl : lv_has ls 4 [(0, .ref (xa cx 136)), (1, .int h), (2, .int d)] := hl
  refine lv_aload_n hx hb dX5_deed_0 rfl (lv_at hl 0 rfl) ?_
  refine lv_iload_n hx hb dX5_deed_1 rfl (lv_at hl 1 rfl) ?_
  refine cl_ip (cl_run (rest := []) F hW e_X5_91 (m_isHouse hI l hN hV0 hk (by omega) (by omega) h) ⟨Nat.le_of_ble_eq_true rfl, Nat.le_of_ble_eq_true rfl⟩ (by omega) g136 rfl rfl rfl hl (Nat.le_of_ble_eq_true rfl) dX5_deed_2 ⟨Nat.zero_le _, Nat.zero_le _⟩) hW (fun H locs hW => ?_)
  refine nv_bne (tgt := 10) F dX5_deed_5 (by decide) (fun c_1 => ?_) (fun c_1 => ?_)
  · skip
    obtain ⟨j, hj, rfl⟩ := inR_of c_1 (by omega)
    refine lv_iload_n hx hb dX5_deed_10 rfl (lv_at hl 2 rfl) ?_
    refine lv_i2l hx hb dX5_deed_11 rfl ?_
    refine lv_lconst (v := lN 0) hx hb dX5_deed_12 (by decide) ?_
    refine lv_ldc2 (v := lN 2) hx hb F.1.2.2.2.1 (hts _ tw_785) dX5_deed_13 ?_
    refine cl_ip (cl_runS (rest := []) F hW e_X5_49 (m_in hI l ((d.toInt64)) ((lN 0)) ((lN 2))) ⟨Nat.le_of_ble_eq_true rfl, Nat.le_of_ble_eq_true rfl⟩ rfl rfl hl (Nat.le_of_ble_eq_true rfl) dX5_deed_16 ⟨Nat.zero_le _, Nat.zero_le _⟩) hW (fun H locs hW => ?_)
    refine nv_top (y := ((b2 (inR d 3)))) (congrArg b2 (inL_R (by decide))) ?_
    refine nv_bne (tgt := 25) F dX5_deed_19 (by decide) (fun c_2 => ?_) (fun c_2 => ?_)
    · skip
      obtain ⟨u, hu, rfl⟩ := inR_of c_2 (by omega)
      refine lv_aload_n hx hb dX5_deed_25 rfl (lv_at hl 0 rfl) ?_
      refine nv_get F hW (by omega) g136 rfl iX5 2 (by decide) tw_631 rfl dX5_deed_26 ?_
      refine lv_bipush (v := nI 12) hx hb dX5_deed_29 (by decide) ?_
      refine lv_iload_n hx hb dX5_deed_31 rfl (lv_at hl 1 rfl) ?_
      refine nv_add F dX5_deed_32 ?_
      refine nv_ialdN (x := ((nI (Ld (AL S) j)))) F hW (by omega) g138 (by omega) (by decide) (hv.1 j (by omega)).2.2.1 dX5_deed_33 ?_
      refine lv_iload_n hx hb dX5_deed_34 rfl (lv_at hl 2 rfl) ?_
      refine nv_cne (tgt := 41) F (by have := (hk4 j hj).2.2.2; omega) (by omega) dX5_deed_35 (by decide) (fun c_3 => ?_) (fun c_3 => ?_)
      · skip
        refine lv_aload_n hx hb dX5_deed_41 rfl (lv_at hl 0 rfl) ?_
        refine cl_v (cl_run (rest := []) F hW e_X5_108 (m_keepAct hI l hN hX hA hMo hB) ⟨Nat.le_of_ble_eq_true rfl, Nat.le_of_ble_eq_true rfl⟩ (by omega) g136 rfl rfl rfl hl (Nat.le_of_ble_eq_true rfl) dX5_deed_42 ⟨Nat.zero_le _, Nat.zero_le _⟩) hW (fun μ4 H locs q_4 hW => ?_)
        obtain ⟨hX_k, ho_k⟩ := q_4
        obtain ⟨rh_k, nx_k, f1_k, fn_k, frd_k, ft_k, fo_k, fa_k, frw_k, fh_k, fu_k, fb_k, fz_k, fkp_k, g136_k, g137_k, g138_k, g139_k, g140_k, g141_k, g142_k, g143_k, g144_k, g145_k, g146_k, g147_k, g148_k, hg_k, hv_k, ht_k, hnx_k, hrw_k, hse_k, hkp_k, hTr_k⟩ := id hX_k
        have g136_k : μ4 136 = .inr (5, [.int (nI (Ln (AL S))), .ref (xa cx 137), .ref (xa cx 138), .ref (xa cx 139), .int rh_k, .ref (xa cx 140), .int (nI (An S)), .ref (xa cx 141), .ref (xa cx 142), .int (nI (min (Az S + 1) 14)), .int (nI nx_k), .ref (xa cx 143), .int (nI (Ay S)), .ref (xa cx 144), .ref (xa cx 145), .ref (xa cx 146), .long (Ad S), .ref (xa cx 147), .ref (xa cx 148)]) := g136_k
        have hv_k : lv fn_k 0 (AL S) := hv_k
        have hV0_k := modX_V0 hX_k
        have hV0_k : mdV cx μ4 0 (AL S) := hV0_k
        refine lv_aload_n hx hb dX5_deed_45 rfl (lv_at hl 0 rfl) ?_
        refine nv_get F hW (by omega) g136_k rfl iX5 2 (by decide) tw_631 rfl dX5_deed_46 ?_
        refine lv_bipush (v := nI 12) hx hb dX5_deed_49 (by decide) ?_
        refine lv_iload_n hx hb dX5_deed_51 rfl (lv_at hl 1 rfl) ?_
        refine nv_add F dX5_deed_52 ?_
        refine nv_ialdN (x := ((nI (Ld (AL S) j)))) F hW (by omega) g138_k (by omega) (by decide) (hv_k.1 j (by omega)).2.2.1 dX5_deed_53 ?_
        refine lv_istore_n (lv' := [(3, .int (nI (Ld (AL S) j))), (0, .ref (xa cx 136)), (1, .int (nI j)), (2, .int (nI u))]) hx hb dX5_deed_54 rfl hl (by decide) rfl (fun ls hl => ?_)
        refine lv_aload_n hx hb dX5_deed_55 rfl (lv_at hl 1 rfl) ?_
        refine nv_get F hW (by omega) g136_k rfl iX5 2 (by decide) tw_631 rfl dX5_deed_56 ?_
        refine lv_bipush (v := nI 12) hx hb dX5_deed_59 (by decide) ?_
        refine lv_iload_n hx hb dX5_deed_61 rfl (lv_at hl 2 rfl) ?_
        refine nv_add F dX5_deed_62 ?_
        refine lv_iload_n hx hb dX5_deed_63 rfl (lv_at hl 3 rfl) ?_
        refine nv_iastN F hW (by omega) g138_k (by omega) (by decide) dX5_deed_64 (fun H locs hW => ?_)
        obtain ⟨μ5, eμ5⟩ : ∃ zz9 : ME, zz9 = va_up μ4 138 (.inl (xT cx 0, 62, .inl (upd fn_k (12 + j) ((nI u))))) := ⟨_, rfl⟩
        have hW : St cx s μ5 H locs := by rw [eμ5]; exact hW
        have h136_5 := (congrFun eμ5 136).trans ((va_up_ne _ _ (by omega)).trans g136_k)
        have h137_5 := (congrFun eμ5 137).trans ((va_up_ne _ _ (by omega)).trans g137_k)
        have h138_5 : μ5 138 = .inl (xT cx 0, 62, .inl (upd fn_k (12 + j) ((nI u)))) := by rw [eμ5, va_up_self]
        have h139_5 := (congrFun eμ5 139).trans ((va_up_ne _ _ (by omega)).trans g139_k)
        have h140_5 := (congrFun eμ5 140).trans ((va_up_ne _ _ (by omega)).trans g140_k)
        have h141_5 := (congrFun eμ5 141).trans ((va_up_ne _ _ (by omega)).trans g141_k)
        have h142_5 := (congrFun eμ5 142).trans ((va_up_ne _ _ (by omega)).trans g142_k)
        have h143_5 := (congrFun eμ5 143).trans ((va_up_ne _ _ (by omega)).trans g143_k)
        have h144_5 := (congrFun eμ5 144).trans ((va_up_ne _ _ (by omega)).trans g144_k)
        have h145_5 := (congrFun eμ5 145).trans ((va_up_ne _ _ (by omega)).trans g145_k)
        have h146_5 := (congrFun eμ5 146).trans ((va_up_ne _ _ (by omega)).trans g146_k)
        have h147_5 := (congrFun eμ5 147).trans ((va_up_ne _ _ (by omega)).trans g147_k)
        have h148_5 := (congrFun eμ5 148).trans ((va_up_ne _ _ (by omega)).trans g148_k)
        refine lv_iload_n hx hb dX5_deed_65 rfl (lv_at hl 0 rfl) ?_
        exact rt_ie F hr hlk hW (by unfold r_deed; rw [inR_j hj (by omega), if_pos rfl, inR_j hu (by omega), if_pos rfl, nI_clamp (by omega), nI_clamp (by omega)]; first | rw [if_pos (by assumption)] | rw [if_neg (by assumption)]) ⟨by unfold s_deed; rw [nI_clamp (by omega), nI_clamp (by omega), inR_j hj (by omega), inR_j hu (by omega), decide_eq_true (by assumption), show setD (AL S) j u = setd (AL S) (va_up (Ld (AL S)) j u) by unfold setD; rw [if_pos (show canD (AL S) j u = true from decide_eq_true ⟨hj, hu, by assumption⟩)], if_pos (show (true && true && true) = true from rfl)]; exact ⟨rh_k, nx_k, f1_k, (upd fn_k (12 + j) ((nI u))), frd_k, ft_k, fo_k, fa_k, frw_k, fh_k, fu_k, fb_k, fz_k, fkp_k, h136_5, h137_5, h138_5, h139_5, h140_5, h141_5, h142_5, h143_5, h144_5, h145_5, h146_5, h147_5, h148_5, hg_k, (lv_dd (o := 0) hv_k hn6 hj), ht_k, hnx_k, hrw_k, hse_k, hkp_k, trivial⟩, (fun z hz => by rw [eμ5, va_up_ne _ _ (by omega)]; rw [ho_k z (by omega)])⟩ dX5_deed_66
      · skip
        refine lv_bipush (v := (-3)) hx hb dX5_deed_38 (by decide) ?_
        exact rt_ie F hr hlk hW (by unfold r_deed; rw [inR_j hj (by omega), if_pos rfl, inR_j hu (by omega), if_pos rfl, nI_clamp (by omega), nI_clamp (by omega)]; first | rw [if_pos (by assumption)] | rw [if_neg (by assumption)]) ⟨by unfold s_deed; rw [nI_clamp (by omega), nI_clamp (by omega), decide_eq_false (by omega), Bool.and_false]; exact (modX_tr hX (fun _ _ => trivial)), off_rf⟩ dX5_deed_40
    · skip
      refine lv_bipush (v := (-2)) hx hb dX5_deed_22 (by decide) ?_
      exact rt_ie F hr hlk hW (by unfold r_deed; rw [inR_j hj (by omega), if_pos rfl, ‹inR d 3 = false›]; rfl) ⟨by unfold s_deed; rw [‹inR d 3 = false›, Bool.and_false]; exact (modX_tr hX (fun _ _ => trivial)), off_rf⟩ dX5_deed_24
  · skip
    refine lv_iconst (v := (-1)) hx hb dX5_deed_8 (by decide) ?_
    exact rt_ie F hr hlk hW (by unfold r_deed; rw [‹inR h (Ln (AL S)) = false›]; rfl) ⟨by unfold s_deed; rw [‹inR h (Ln (AL S)) = false›]; exact (modX_tr hX (fun _ _ => trivial)), off_rf⟩ dX5_deed_9
