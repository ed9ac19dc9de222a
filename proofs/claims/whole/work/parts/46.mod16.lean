theorem shp_adI {L : LN} {h ch : Nat} : shp (adI L h ch) L := by
  unfold adI
  split
  · exact shp_addS
  · exact shp_rf
theorem Ls_adI {L : LN} {h ch t : Nat} (hne : ¬ t = h) : Ls (adI L h ch) t = Ls L t := by
  unfold adI
  split
  · unfold addS
    split
    · show va_up (Ls L) h _ t = Ls L t
      rw [va_up_ne _ _ hne]
    · rfl
  · rfl
theorem canA_adI {L : LN} {h ch t v : Nat} (hne : ¬ t = h) : canA (adI L h ch) t v = canA L t v := by
  unfold canA
  rw [Ls_adI hne, adI_n]
theorem lv_adI {f : Nat → Int32} {o j v ch : Nat} {L : LN} (h : lv f o L) (hn : Ln L ≤ 6) (hj : j < Ln L) (hv : v = if ch = 1 ∧ canA L j 3 = true then 3 else 0) : lv (upd f (o + 6 + j) (nI (Ls L j + v))) o (adI L j ch) := by
  subst hv
  unfold adI
  by_cases c1 : ch = 1
  · rw [if_pos c1]
    unfold addS
    by_cases c2 : canA L j 3 = true
    · rw [if_pos c2, if_pos ⟨c1, c2⟩]
      exact lv_s h hn hj
    · rw [if_neg c2, if_neg (fun z => c2 z.2)]
      exact lv_same h (h.1 j hj).2.1
  · rw [if_neg c1, if_neg (fun z => c1 z.1)]
    exact lv_same h (h.1 j hj).2.1
theorem mul5 (b : Bool) : 5 * (if b then 1 else 0) = if b then 5 else 0 := by cases b <;> rfl

set_option maxHeartbeats 4000000 in
set_option maxRecDepth 100000 in
theorem m_gain {cx : CX} (hI : xI cx) (l : Launch) {μ : ME} {S : AS} {B : Nat} {Tr : (Nat → Int32) → Prop} (hN : 149 ≤ xN cx) (hX : modX cx μ S Tr) (hA : aok S B) (hMo : mok S) (hB : B < 800000) (j o ch rc : Nat) (hj : j < Ln (AL S)) (hoo : o < Ln (AL S)) (hne : ¬ j = o) (hch : ch ≤ 1) (hrc : rc ≤ 1) : MT cx l yX5_gain cX5_gain 5 (some .int) 5 118 [.ref (xa cx 136), .int (nI j), .int (nI o), .int (nI ch), .int (nI rc)] μ (Ei cx (gnI (AL S) j ch o rc) (fun μ1 => modX cx μ1 S (fun _ => True) ∧ off 136 13 μ μ1)) := by
  refine mt_of hI (by decide) (Nat.le_of_ble_eq_true rfl) ?_
  intro p e s m below meth c ls F hr hlk hW hl
  have hx := F.1.1
  have hb := F.1.2.1
  have hts := F.1.2.2.2.2
  obtain ⟨rh, nx, f1, fn, frd, ft, fo, fa, frw, fh, fu, fb, fz, fkp, g136, g137, g138, g139, g140, g141, g142, g143, g144, g145, g146, g147, g148, hg, hv, ht, hnx, hrw, hse, hkp, hTr⟩ := id hX
  have hk := hA.2.1
  have hn6 := hk.1
  have hk4 := hk.2.2.2.1
  have hU := lok_U hk
  have hV0 := modX_V0 hX
  have hl : lv_has ls 5 [(0, .ref (xa cx 136)), (1, .int (nI j)), (2, .int (nI o)), (3, .int (nI ch)), (4, .int (nI rc))] := hl
  refine lv_aload_n hx hb dX5_gain_0 rfl (lv_at hl 0 rfl) ?_
  refine cl_v (cl_run (rest := []) F hW e_X5_134 (m_layTrial hI l hN hX hA hMo hB) ⟨Nat.le_of_ble_eq_true rfl, Nat.le_of_ble_eq_true rfl⟩ (by omega) g136 rfl rfl rfl hl (Nat.le_of_ble_eq_true rfl) dX5_gain_1 ⟨Nat.zero_le _, Nat.zero_le _⟩) hW (fun μ1 H locs q_1 hW => ?_)
  obtain ⟨hX_1, ho_1⟩ := q_1
  obtain ⟨rh_1, nx_1, f1_1, fn_1, frd_1, ft_1, fo_1, fa_1, frw_1, fh_1, fu_1, fb_1, fz_1, fkp_1, g136_1, g137_1, g138_1, g139_1, g140_1, g141_1, g142_1, g143_1, g144_1, g145_1, g146_1, g147_1, g148_1, hg_1, hv_1, ht_1, hnx_1, hrw_1, hse_1, hkp_1, hTr_1⟩ := id hX_1
  have hs_1 : shp (AL S) (AL S) := shp_rf
  have hkT_1 := hk
  have hn_1 : Ln (AL S) = Ln (AL S) := hs_1.1
  have hV0_1 := modX_V0 hX_1
  have hV1_1 := modX_V1 hX_1 hs_1
  refine lv_aload_n hx hb dX5_gain_4 rfl (lv_at hl 0 rfl) ?_
  refine nv_get F hW (by omega) g136_1 rfl iX5 2 (by decide) tw_631 rfl dX5_gain_5 ?_
  refine lv_bipush (v := nI 37) hx hb dX5_gain_8 (by decide) ?_
  refine lv_iload_n hx hb dX5_gain_10 rfl (lv_at hl 1 rfl) ?_
  refine nv_add F dX5_gain_11 ?_
  refine lv_dup2_11 hx hb dX5_gain_12 rfl rfl ?_
  refine nv_ialdN (x := ((nI (Ls (AL S) j)))) F hW (by omega) g138_1 (by omega) (by decide) (hTr_1.1 j (by omega)).2.1 dX5_gain_13 ?_
  refine lv_iload_n hx hb dX5_gain_14 rfl (lv_at hl 3 rfl) ?_
  refine lv_iconst (v := nI 1) hx hb dX5_gain_15 (by decide) ?_
  refine nv_cne (tgt := 33) F (by omega) (by omega) dX5_gain_16 (by decide) (fun c_2 => ?_) (fun c_2 => ?_)
  · skip
    refine lv_iconst (v := nI 0) hx hb dX5_gain_33 (by decide) ?_
    refine nv_add F dX5_gain_34 ?_
    refine nv_iastN F hW (by omega) g138_1 (by omega) (by decide) dX5_gain_35 (fun H locs hW => ?_)
    obtain ⟨μ3, eμ3⟩ : ∃ zz9 : ME, zz9 = va_up μ1 138 (.inl (xT cx 0, 62, .inl (upd fn_1 (37 + j) ((nI ((Ls (AL S) j) + 0)))))) := ⟨_, rfl⟩
    have hW : St cx s μ3 H locs := by rw [eμ3]; exact hW
    have h136_3 := (congrFun eμ3 136).trans ((va_up_ne _ _ (by omega)).trans g136_1)
    have h137_3 := (congrFun eμ3 137).trans ((va_up_ne _ _ (by omega)).trans g137_1)
    have h138_3 : μ3 138 = .inl (xT cx 0, 62, .inl (upd fn_1 (37 + j) ((nI ((Ls (AL S) j) + 0))))) := by rw [eμ3, va_up_self]
    have h139_3 := (congrFun eμ3 139).trans ((va_up_ne _ _ (by omega)).trans g139_1)
    have h140_3 := (congrFun eμ3 140).trans ((va_up_ne _ _ (by omega)).trans g140_1)
    have h141_3 := (congrFun eμ3 141).trans ((va_up_ne _ _ (by omega)).trans g141_1)
    have h142_3 := (congrFun eμ3 142).trans ((va_up_ne _ _ (by omega)).trans g142_1)
    have h143_3 := (congrFun eμ3 143).trans ((va_up_ne _ _ (by omega)).trans g143_1)
    have h144_3 := (congrFun eμ3 144).trans ((va_up_ne _ _ (by omega)).trans g144_1)
    have h145_3 := (congrFun eμ3 145).trans ((va_up_ne _ _ (by omega)).trans g145_1)
    have h146_3 := (congrFun eμ3 146).trans ((va_up_ne _ _ (by omega)).trans g146_1)
    have h147_3 := (congrFun eμ3 147).trans ((va_up_ne _ _ (by omega)).trans g147_1)
    have h148_3 := (congrFun eμ3 148).trans ((va_up_ne _ _ (by omega)).trans g148_1)
    have hX_t3 : modX cx μ3 S (fun fn => lv fn 31 (adI (AL S) j ch)) := modX_138 hX_1 hn6 g138_1 eμ3 (fun z hz => upd_ne (by omega)) (lv_adI (o := 31) hTr_1 hn6 hj (by first | (rw [if_pos ⟨by omega, by assumption⟩]; done) | (rw [if_neg (fun z => by have := z.1; omega)]; done) | (rw [if_neg (fun z => absurd (z.2.symm.trans (show canA _ _ 3 = false by assumption)) (by decide))]; done)))
    obtain ⟨rh_t3, nx_t3, f1_t3, fn_t3, frd_t3, ft_t3, fo_t3, fa_t3, frw_t3, fh_t3, fu_t3, fb_t3, fz_t3, fkp_t3, g136_t3, g137_t3, g138_t3, g139_t3, g140_t3, g141_t3, g142_t3, g143_t3, g144_t3, g145_t3, g146_t3, g147_t3, g148_t3, hg_t3, hv_t3, ht_t3, hnx_t3, hrw_t3, hse_t3, hkp_t3, hTr_t3⟩ := id hX_t3
    have hs_t3 : shp (adI (AL S) j ch) (AL S) := shp_adI
    have hkT_t3 := lok_adI hk j ch
    have hn_t3 : Ln (adI (AL S) j ch) = Ln (AL S) := hs_t3.1
    have hV0_t3 := modX_V0 hX_t3
    have hV1_t3 := modX_V1 hX_t3 hs_t3
    refine lv_aload_n hx hb dX5_gain_36 rfl (lv_at hl 0 rfl) ?_
    refine nv_get F hW (by omega) g136_t3 rfl iX5 2 (by decide) tw_631 rfl dX5_gain_37 ?_
    refine lv_bipush (v := nI 37) hx hb dX5_gain_40 (by decide) ?_
    refine lv_iload_n hx hb dX5_gain_42 rfl (lv_at hl 2 rfl) ?_
    refine nv_add F dX5_gain_43 ?_
    refine lv_dup2_11 hx hb dX5_gain_44 rfl rfl ?_
    refine nv_ialdN (x := ((nI (Ls (adI (AL S) j ch) o)))) F hW (by omega) g138_t3 (by omega) (by decide) (hTr_t3.1 o (by omega)).2.1 dX5_gain_45 ?_
    refine lv_iload hx hb dX5_gain_46 (lv_at hl 4 rfl) ?_
    refine lv_iconst (v := nI 1) hx hb dX5_gain_48 (by decide) ?_
    refine nv_cne (tgt := 66) F (by omega) (by omega) dX5_gain_49 (by decide) (fun c_4 => ?_) (fun c_4 => ?_)
    · skip
      refine lv_iconst (v := nI 0) hx hb dX5_gain_66 (by decide) ?_
      refine nv_add F dX5_gain_67 ?_
      refine nv_iastN F hW (by omega) g138_t3 (by omega) (by decide) dX5_gain_68 (fun H locs hW => ?_)
      obtain ⟨μ5, eμ5⟩ : ∃ zz9 : ME, zz9 = va_up μ3 138 (.inl (xT cx 0, 62, .inl (upd fn_t3 (37 + o) ((nI ((Ls (adI (AL S) j ch) o) + 0)))))) := ⟨_, rfl⟩
      have hW : St cx s μ5 H locs := by rw [eμ5]; exact hW
      have h136_5 := (congrFun eμ5 136).trans ((va_up_ne _ _ (by omega)).trans g136_t3)
      have h137_5 := (congrFun eμ5 137).trans ((va_up_ne _ _ (by omega)).trans g137_t3)
      have h138_5 : μ5 138 = .inl (xT cx 0, 62, .inl (upd fn_t3 (37 + o) ((nI ((Ls (adI (AL S) j ch) o) + 0))))) := by rw [eμ5, va_up_self]
      have h139_5 := (congrFun eμ5 139).trans ((va_up_ne _ _ (by omega)).trans g139_t3)
      have h140_5 := (congrFun eμ5 140).trans ((va_up_ne _ _ (by omega)).trans g140_t3)
      have h141_5 := (congrFun eμ5 141).trans ((va_up_ne _ _ (by omega)).trans g141_t3)
      have h142_5 := (congrFun eμ5 142).trans ((va_up_ne _ _ (by omega)).trans g142_t3)
      have h143_5 := (congrFun eμ5 143).trans ((va_up_ne _ _ (by omega)).trans g143_t3)
      have h144_5 := (congrFun eμ5 144).trans ((va_up_ne _ _ (by omega)).trans g144_t3)
      have h145_5 := (congrFun eμ5 145).trans ((va_up_ne _ _ (by omega)).trans g145_t3)
      have h146_5 := (congrFun eμ5 146).trans ((va_up_ne _ _ (by omega)).trans g146_t3)
      have h147_5 := (congrFun eμ5 147).trans ((va_up_ne _ _ (by omega)).trans g147_t3)
      have h148_5 := (congrFun eμ5 148).trans ((va_up_ne _ _ (by omega)).trans g148_t3)
      have hX_t5 : modX cx μ5 S (fun fn => lv fn 31 (adI (adI (AL S) j ch) o rc)) := modX_138 hX_t3 hn6 g138_t3 eμ5 (fun z hz => upd_ne (by omega)) (lv_adI (o := 31) hTr_t3 (by rw [adI_n]; exact hn6) (by rw [adI_n]; exact hoo) (by first | (rw [if_pos ⟨by omega, (canA_adI (fun q => hne q.symm)).trans (by assumption)⟩]; done) | (rw [if_neg (fun z => by have := z.1; omega)]; done) | (rw [if_neg (fun z => absurd (((canA_adI (fun q => hne q.symm)).symm.trans z.2).symm.trans (show canA (AL S) o 3 = false by assumption)) (by decide))]; done)))
      obtain ⟨rh_t5, nx_t5, f1_t5, fn_t5, frd_t5, ft_t5, fo_t5, fa_t5, frw_t5, fh_t5, fu_t5, fb_t5, fz_t5, fkp_t5, g136_t5, g137_t5, g138_t5, g139_t5, g140_t5, g141_t5, g142_t5, g143_t5, g144_t5, g145_t5, g146_t5, g147_t5, g148_t5, hg_t5, hv_t5, ht_t5, hnx_t5, hrw_t5, hse_t5, hkp_t5, hTr_t5⟩ := id hX_t5
      have hs_t5 : shp (adI (adI (AL S) j ch) o rc) (AL S) := shp_tr shp_adI shp_adI
      have hkT_t5 := lok_adI (lok_adI hk j ch) o rc
      have hn_t5 : Ln (adI (adI (AL S) j ch) o rc) = Ln (AL S) := hs_t5.1
      have hV0_t5 := modX_V0 hX_t5
      have hV1_t5 := modX_V1 hX_t5 hs_t5
      refine lv_aload_n hx hb dX5_gain_69 rfl (lv_at hl 0 rfl) ?_
      refine lv_iconst (v := nI 4) hx hb dX5_gain_70 (by decide) ?_
      refine cl_ie (cl_run (rest := []) F hW e_X5_137 (m_goOn hI l hN hX_t5 hA hMo hB hs_t5 hkT_t5 (by omega) 4 (by omega)) ⟨Nat.le_of_ble_eq_true rfl, Nat.le_of_ble_eq_true rfl⟩ (by omega) g136_t5 rfl rfl rfl hl (Nat.le_of_ble_eq_true rfl) dX5_gain_71 ⟨Nat.zero_le _, Nat.zero_le _⟩) hW (fun μ6 H locs q_6 hW => ?_)
      obtain ⟨hX_6, ho_6⟩ := q_6
      obtain ⟨rh_6, nx_6, f1_6, fn_6, frd_6, ft_6, fo_6, fa_6, frw_6, fh_6, fu_6, fb_6, fz_6, fkp_6, g136_6, g137_6, g138_6, g139_6, g140_6, g141_6, g142_6, g143_6, g144_6, g145_6, g146_6, g147_6, g148_6, hg_6, hv_6, ht_6, hnx_6, hrw_6, hse_6, hkp_6, hTr_6⟩ := id hX_6
      have hs_6 : shp (hrs 4 (adI (adI (AL S) j ch) o rc)) (AL S) := shp_tr (shp_hrs 4) hs_t5
      have hkT_6 := lok_hrs hkT_t5 4
      have hn_6 : Ln (hrs 4 (adI (adI (AL S) j ch) o rc)) = Ln (AL S) := hs_6.1
      have hV0_6 := modX_V0 hX_6
      have hV1_6 := modX_V1 hX_6 hs_6
      refine lv_pop hx hb dX5_gain_74 rfl ?_
      refine lv_aload_n hx hb dX5_gain_75 rfl (lv_at hl 0 rfl) ?_
      refine lv_iconst (v := nI 1) hx hb dX5_gain_76 (by decide) ?_
      refine lv_iload_n hx hb dX5_gain_77 rfl (lv_at hl 1 rfl) ?_
      refine cl_ip (cl_run (rest := []) F hW e_X5_99 (m_groundOf hI l hN hV1_6 hkT_6 (by omega) (by omega) j (by rw [hrs_n, adI_n, adI_n]; exact hj)) ⟨Nat.le_of_ble_eq_true rfl, Nat.le_of_ble_eq_true rfl⟩ (by omega) g136_6 rfl rfl rfl hl (Nat.le_of_ble_eq_true rfl) dX5_gain_78 ⟨Nat.zero_le _, Nat.zero_le _⟩) hW (fun H locs hW => ?_)
      refine nv_top (y := ((nI (lgr (gnL (AL S) j ch o rc) j)))) rfl ?_
      refine lv_iconst (v := nI 5) hx hb dX5_gain_81 (by decide) ?_
      refine lv_aload_n hx hb dX5_gain_82 rfl (lv_at hl 0 rfl) ?_
      refine lv_iconst (v := nI 1) hx hb dX5_gain_83 (by decide) ?_
      refine lv_bipush (v := nI 18) hx hb dX5_gain_84 (by decide) ?_
      refine lv_iload_n hx hb dX5_gain_86 rfl (lv_at hl 1 rfl) ?_
      refine cl_ip (cl_run (rest := [.int (nI 5), .int (nI (lgr (gnL (AL S) j ch o rc) j))]) F hW e_X5_80 (m_at18 hI l hN hV1_6 hkT_6 (by omega) (by omega) j (by rw [hrs_n, adI_n, adI_n]; exact hj)) ⟨Nat.le_of_ble_eq_true rfl, Nat.le_of_ble_eq_true rfl⟩ (by omega) g136_6 rfl rfl rfl hl (Nat.le_of_ble_eq_true rfl) dX5_gain_87 ⟨Nat.zero_le _, Nat.zero_le _⟩) hW (fun H locs hW => ?_)
      refine nv_top (y := ((nI (if lst (gnL (AL S) j ch o rc) j then 1 else 0)))) (b2_n _) ?_
      refine nv_mul F dX5_gain_90 ?_
      refine nv_top (y := ((nI (if lst (gnL (AL S) j ch o rc) j then 5 else 0)))) (congrArg nI (mul5 _)) ?_
      refine nv_add F dX5_gain_91 ?_
      refine lv_iconst (v := nI 2) hx hb dX5_gain_92 (by decide) ?_
      refine lv_iload_n hx hb dX5_gain_93 rfl (lv_at hl 3 rfl) ?_
      refine nv_mul F dX5_gain_94 ?_
      refine lv_isub hx hb dX5_gain_95 ?_
      exact rt_ie F hr hlk hW rfl ⟨(modX_tr hX_6 (fun _ _ => trivial)), (fun z hz => by rw [ho_6 z (by omega)]; rw [eμ5, va_up_ne _ _ (by omega)]; rw [eμ3, va_up_ne _ _ (by omega)]; rw [ho_1 z (by omega)])⟩ dX5_gain_96
    · skip
      refine lv_aload_n hx hb dX5_gain_52 rfl (lv_at hl 0 rfl) ?_
      refine lv_iconst (v := nI 0) hx hb dX5_gain_53 (by decide) ?_
      refine lv_iload_n hx hb dX5_gain_54 rfl (lv_at hl 2 rfl) ?_
      refine lv_iconst (v := nI 3) hx hb dX5_gain_55 (by decide) ?_
      refine cl_ip (cl_run (rest := [.int (nI (Ls (adI (AL S) j ch) o)), .int (nI (37 + o)), .ref (xa cx 138)]) F hW e_X5_119 (m_canBring hI l hN hV0_t3 hk (by omega) (by omega) o 3 (by omega) (by omega)) ⟨Nat.le_of_ble_eq_true rfl, Nat.le_of_ble_eq_true rfl⟩ (by omega) g136_t3 rfl rfl rfl hl (Nat.le_of_ble_eq_true rfl) dX5_gain_56 ⟨Nat.zero_le _, Nat.zero_le _⟩) hW (fun H locs hW => ?_)
      refine nv_beq (tgt := 66) F dX5_gain_59 (by decide) (fun c_7 => ?_) (fun c_7 => ?_)
      · skip
        refine lv_iconst (v := nI 0) hx hb dX5_gain_66 (by decide) ?_
        refine nv_add F dX5_gain_67 ?_
        refine nv_iastN F hW (by omega) g138_t3 (by omega) (by decide) dX5_gain_68 (fun H locs hW => ?_)
        obtain ⟨μ8, eμ8⟩ : ∃ zz9 : ME, zz9 = va_up μ3 138 (.inl (xT cx 0, 62, .inl (upd fn_t3 (37 + o) ((nI ((Ls (adI (AL S) j ch) o) + 0)))))) := ⟨_, rfl⟩
        have hW : St cx s μ8 H locs := by rw [eμ8]; exact hW
        have h136_8 := (congrFun eμ8 136).trans ((va_up_ne _ _ (by omega)).trans g136_t3)
        have h137_8 := (congrFun eμ8 137).trans ((va_up_ne _ _ (by omega)).trans g137_t3)
        have h138_8 : μ8 138 = .inl (xT cx 0, 62, .inl (upd fn_t3 (37 + o) ((nI ((Ls (adI (AL S) j ch) o) + 0))))) := by rw [eμ8, va_up_self]
        have h139_8 := (congrFun eμ8 139).trans ((va_up_ne _ _ (by omega)).trans g139_t3)
        have h140_8 := (congrFun eμ8 140).trans ((va_up_ne _ _ (by omega)).trans g140_t3)
        have h141_8 := (congrFun eμ8 141).trans ((va_up_ne _ _ (by omega)).trans g141_t3)
        have h142_8 := (congrFun eμ8 142).trans ((va_up_ne _ _ (by omega)).trans g142_t3)
        have h143_8 := (congrFun eμ8 143).trans ((va_up_ne _ _ (by omega)).trans g143_t3)
        have h144_8 := (congrFun eμ8 144).trans ((va_up_ne _ _ (by omega)).trans g144_t3)
        have h145_8 := (congrFun eμ8 145).trans ((va_up_ne _ _ (by omega)).trans g145_t3)
        have h146_8 := (congrFun eμ8 146).trans ((va_up_ne _ _ (by omega)).trans g146_t3)
        have h147_8 := (congrFun eμ8 147).trans ((va_up_ne _ _ (by omega)).trans g147_t3)
        have h148_8 := (congrFun eμ8 148).trans ((va_up_ne _ _ (by omega)).trans g148_t3)
        have hX_t8 : modX cx μ8 S (fun fn => lv fn 31 (adI (adI (AL S) j ch) o rc)) := modX_138 hX_t3 hn6 g138_t3 eμ8 (fun z hz => upd_ne (by omega)) (lv_adI (o := 31) hTr_t3 (by rw [adI_n]; exact hn6) (by rw [adI_n]; exact hoo) (by first | (rw [if_pos ⟨by omega, (canA_adI (fun q => hne q.symm)).trans (by assumption)⟩]; done) | (rw [if_neg (fun z => by have := z.1; omega)]; done) | (rw [if_neg (fun z => absurd (((canA_adI (fun q => hne q.symm)).symm.trans z.2).symm.trans (show canA (AL S) o 3 = false by assumption)) (by decide))]; done)))
        obtain ⟨rh_t8, nx_t8, f1_t8, fn_t8, frd_t8, ft_t8, fo_t8, fa_t8, frw_t8, fh_t8, fu_t8, fb_t8, fz_t8, fkp_t8, g136_t8, g137_t8, g138_t8, g139_t8, g140_t8, g141_t8, g142_t8, g143_t8, g144_t8, g145_t8, g146_t8, g147_t8, g148_t8, hg_t8, hv_t8, ht_t8, hnx_t8, hrw_t8, hse_t8, hkp_t8, hTr_t8⟩ := id hX_t8
        have hs_t8 : shp (adI (adI (AL S) j ch) o rc) (AL S) := shp_tr shp_adI shp_adI
        have hkT_t8 := lok_adI (lok_adI hk j ch) o rc
        have hn_t8 : Ln (adI (adI (AL S) j ch) o rc) = Ln (AL S) := hs_t8.1
        have hV0_t8 := modX_V0 hX_t8
        have hV1_t8 := modX_V1 hX_t8 hs_t8
        refine lv_aload_n hx hb dX5_gain_69 rfl (lv_at hl 0 rfl) ?_
        refine lv_iconst (v := nI 4) hx hb dX5_gain_70 (by decide) ?_
        refine cl_ie (cl_run (rest := []) F hW e_X5_137 (m_goOn hI l hN hX_t8 hA hMo hB hs_t8 hkT_t8 (by omega) 4 (by omega)) ⟨Nat.le_of_ble_eq_true rfl, Nat.le_of_ble_eq_true rfl⟩ (by omega) g136_t8 rfl rfl rfl hl (Nat.le_of_ble_eq_true rfl) dX5_gain_71 ⟨Nat.zero_le _, Nat.zero_le _⟩) hW (fun μ9 H locs q_9 hW => ?_)
        obtain ⟨hX_9, ho_9⟩ := q_9
        obtain ⟨rh_9, nx_9, f1_9, fn_9, frd_9, ft_9, fo_9, fa_9, frw_9, fh_9, fu_9, fb_9, fz_9, fkp_9, g136_9, g137_9, g138_9, g139_9, g140_9, g141_9, g142_9, g143_9, g144_9, g145_9, g146_9, g147_9, g148_9, hg_9, hv_9, ht_9, hnx_9, hrw_9, hse_9, hkp_9, hTr_9⟩ := id hX_9
        have hs_9 : shp (hrs 4 (adI (adI (AL S) j ch) o rc)) (AL S) := shp_tr (shp_hrs 4) hs_t8
        have hkT_9 := lok_hrs hkT_t8 4
        have hn_9 : Ln (hrs 4 (adI (adI (AL S) j ch) o rc)) = Ln (AL S) := hs_9.1
        have hV0_9 := modX_V0 hX_9
        have hV1_9 := modX_V1 hX_9 hs_9
        refine lv_pop hx hb dX5_gain_74 rfl ?_
        refine lv_aload_n hx hb dX5_gain_75 rfl (lv_at hl 0 rfl) ?_
        refine lv_iconst (v := nI 1) hx hb dX5_gain_76 (by decide) ?_
        refine lv_iload_n hx hb dX5_gain_77 rfl (lv_at hl 1 rfl) ?_
        refine cl_ip (cl_run (rest := []) F hW e_X5_99 (m_groundOf hI l hN hV1_9 hkT_9 (by omega) (by omega) j (by rw [hrs_n, adI_n, adI_n]; exact hj)) ⟨Nat.le_of_ble_eq_true rfl, Nat.le_of_ble_eq_true rfl⟩ (by omega) g136_9 rfl rfl rfl hl (Nat.le_of_ble_eq_true rfl) dX5_gain_78 ⟨Nat.zero_le _, Nat.zero_le _⟩) hW (fun H locs hW => ?_)
        refine nv_top (y := ((nI (lgr (gnL (AL S) j ch o rc) j)))) rfl ?_
        refine lv_iconst (v := nI 5) hx hb dX5_gain_81 (by decide) ?_
        refine lv_aload_n hx hb dX5_gain_82 rfl (lv_at hl 0 rfl) ?_
        refine lv_iconst (v := nI 1) hx hb dX5_gain_83 (by decide) ?_
        refine lv_bipush (v := nI 18) hx hb dX5_gain_84 (by decide) ?_
        refine lv_iload_n hx hb dX5_gain_86 rfl (lv_at hl 1 rfl) ?_
        refine cl_ip (cl_run (rest := [.int (nI 5), .int (nI (lgr (gnL (AL S) j ch o rc) j))]) F hW e_X5_80 (m_at18 hI l hN hV1_9 hkT_9 (by omega) (by omega) j (by rw [hrs_n, adI_n, adI_n]; exact hj)) ⟨Nat.le_of_ble_eq_true rfl, Nat.le_of_ble_eq_true rfl⟩ (by omega) g136_9 rfl rfl rfl hl (Nat.le_of_ble_eq_true rfl) dX5_gain_87 ⟨Nat.zero_le _, Nat.zero_le _⟩) hW (fun H locs hW => ?_)
        refine nv_top (y := ((nI (if lst (gnL (AL S) j ch o rc) j then 1 else 0)))) (b2_n _) ?_
        refine nv_mul F dX5_gain_90 ?_
        refine nv_top (y := ((nI (if lst (gnL (AL S) j ch o rc) j then 5 else 0)))) (congrArg nI (mul5 _)) ?_
        refine nv_add F dX5_gain_91 ?_
        refine lv_iconst (v := nI 2) hx hb dX5_gain_92 (by decide) ?_
        refine lv_iload_n hx hb dX5_gain_93 rfl (lv_at hl 3 rfl) ?_
        refine nv_mul F dX5_gain_94 ?_
        refine lv_isub hx hb dX5_gain_95 ?_
        exact rt_ie F hr hlk hW rfl ⟨(modX_tr hX_9 (fun _ _ => trivial)), (fun z hz => by rw [ho_9 z (by omega)]; rw [eμ8, va_up_ne _ _ (by omega)]; rw [eμ3, va_up_ne _ _ (by omega)]; rw [ho_1 z (by omega)])⟩ dX5_gain_96
      · skip
        refine lv_iconst (v := nI 3) hx hb dX5_gain_62 (by decide) ?_
        refine lv_goto (tgt := 67) hx hb dX5_gain_63 (by decide) ?_
        refine nv_add F dX5_gain_67 ?_
        refine nv_iastN F hW (by omega) g138_t3 (by omega) (by decide) dX5_gain_68 (fun H locs hW => ?_)
        obtain ⟨μ10, eμ10⟩ : ∃ zz9 : ME, zz9 = va_up μ3 138 (.inl (xT cx 0, 62, .inl (upd fn_t3 (37 + o) ((nI ((Ls (adI (AL S) j ch) o) + 3)))))) := ⟨_, rfl⟩
        have hW : St cx s μ10 H locs := by rw [eμ10]; exact hW
        have h136_10 := (congrFun eμ10 136).trans ((va_up_ne _ _ (by omega)).trans g136_t3)
        have h137_10 := (congrFun eμ10 137).trans ((va_up_ne _ _ (by omega)).trans g137_t3)
        have h138_10 : μ10 138 = .inl (xT cx 0, 62, .inl (upd fn_t3 (37 + o) ((nI ((Ls (adI (AL S) j ch) o) + 3))))) := by rw [eμ10, va_up_self]
        have h139_10 := (congrFun eμ10 139).trans ((va_up_ne _ _ (by omega)).trans g139_t3)
        have h140_10 := (congrFun eμ10 140).trans ((va_up_ne _ _ (by omega)).trans g140_t3)
        have h141_10 := (congrFun eμ10 141).trans ((va_up_ne _ _ (by omega)).trans g141_t3)
        have h142_10 := (congrFun eμ10 142).trans ((va_up_ne _ _ (by omega)).trans g142_t3)
        have h143_10 := (congrFun eμ10 143).trans ((va_up_ne _ _ (by omega)).trans g143_t3)
        have h144_10 := (congrFun eμ10 144).trans ((va_up_ne _ _ (by omega)).trans g144_t3)
        have h145_10 := (congrFun eμ10 145).trans ((va_up_ne _ _ (by omega)).trans g145_t3)
        have h146_10 := (congrFun eμ10 146).trans ((va_up_ne _ _ (by omega)).trans g146_t3)
        have h147_10 := (congrFun eμ10 147).trans ((va_up_ne _ _ (by omega)).trans g147_t3)
        have h148_10 := (congrFun eμ10 148).trans ((va_up_ne _ _ (by omega)).trans g148_t3)
        have hX_t10 : modX cx μ10 S (fun fn => lv fn 31 (adI (adI (AL S) j ch) o rc)) := modX_138 hX_t3 hn6 g138_t3 eμ10 (fun z hz => upd_ne (by omega)) (lv_adI (o := 31) hTr_t3 (by rw [adI_n]; exact hn6) (by rw [adI_n]; exact hoo) (by first | (rw [if_pos ⟨by omega, (canA_adI (fun q => hne q.symm)).trans (by assumption)⟩]; done) | (rw [if_neg (fun z => by have := z.1; omega)]; done) | (rw [if_neg (fun z => absurd (((canA_adI (fun q => hne q.symm)).symm.trans z.2).symm.trans (show canA (AL S) o 3 = false by assumption)) (by decide))]; done)))
        obtain ⟨rh_t10, nx_t10, f1_t10, fn_t10, frd_t10, ft_t10, fo_t10, fa_t10, frw_t10, fh_t10, fu_t10, fb_t10, fz_t10, fkp_t10, g136_t10, g137_t10, g138_t10, g139_t10, g140_t10, g141_t10, g142_t10, g143_t10, g144_t10, g145_t10, g146_t10, g147_t10, g148_t10, hg_t10, hv_t10, ht_t10, hnx_t10, hrw_t10, hse_t10, hkp_t10, hTr_t10⟩ := id hX_t10
        have hs_t10 : shp (adI (adI (AL S) j ch) o rc) (AL S) := shp_tr shp_adI shp_adI
        have hkT_t10 := lok_adI (lok_adI hk j ch) o rc
        have hn_t10 : Ln (adI (adI (AL S) j ch) o rc) = Ln (AL S) := hs_t10.1
        have hV0_t10 := modX_V0 hX_t10
        have hV1_t10 := modX_V1 hX_t10 hs_t10
        refine lv_aload_n hx hb dX5_gain_69 rfl (lv_at hl 0 rfl) ?_
        refine lv_iconst (v := nI 4) hx hb dX5_gain_70 (by decide) ?_
        refine cl_ie (cl_run (rest := []) F hW e_X5_137 (m_goOn hI l hN hX_t10 hA hMo hB hs_t10 hkT_t10 (by omega) 4 (by omega)) ⟨Nat.le_of_ble_eq_true rfl, Nat.le_of_ble_eq_true rfl⟩ (by omega) g136_t10 rfl rfl rfl hl (Nat.le_of_ble_eq_true rfl) dX5_gain_71 ⟨Nat.zero_le _, Nat.zero_le _⟩) hW (fun μ11 H locs q_11 hW => ?_)
        obtain ⟨hX_11, ho_11⟩ := q_11
        obtain ⟨rh_11, nx_11, f1_11, fn_11, frd_11, ft_11, fo_11, fa_11, frw_11, fh_11, fu_11, fb_11, fz_11, fkp_11, g136_11, g137_11, g138_11, g139_11, g140_11, g141_11, g142_11, g143_11, g144_11, g145_11, g146_11, g147_11, g148_11, hg_11, hv_11, ht_11, hnx_11, hrw_11, hse_11, hkp_11, hTr_11⟩ := id hX_11
        have hs_11 : shp (hrs 4 (adI (adI (AL S) j ch) o rc)) (AL S) := shp_tr (shp_hrs 4) hs_t10
        have hkT_11 := lok_hrs hkT_t10 4
        have hn_11 : Ln (hrs 4 (adI (adI (AL S) j ch) o rc)) = Ln (AL S) := hs_11.1
        have hV0_11 := modX_V0 hX_11
        have hV1_11 := modX_V1 hX_11 hs_11
        refine lv_pop hx hb dX5_gain_74 rfl ?_
        refine lv_aload_n hx hb dX5_gain_75 rfl (lv_at hl 0 rfl) ?_
        refine lv_iconst (v := nI 1) hx hb dX5_gain_76 (by decide) ?_
        refine lv_iload_n hx hb dX5_gain_77 rfl (lv_at hl 1 rfl) ?_
        refine cl_ip (cl_run (rest := []) F hW e_X5_99 (m_groundOf hI l hN hV1_11 hkT_11 (by omega) (by omega) j (by rw [hrs_n, adI_n, adI_n]; exact hj)) ⟨Nat.le_of_ble_eq_true rfl, Nat.le_of_ble_eq_true rfl⟩ (by omega) g136_11 rfl rfl rfl hl (Nat.le_of_ble_eq_true rfl) dX5_gain_78 ⟨Nat.zero_le _, Nat.zero_le _⟩) hW (fun H locs hW => ?_)
        refine nv_top (y := ((nI (lgr (gnL (AL S) j ch o rc) j)))) rfl ?_
        refine lv_iconst (v := nI 5) hx hb dX5_gain_81 (by decide) ?_
        refine lv_aload_n hx hb dX5_gain_82 rfl (lv_at hl 0 rfl) ?_
        refine lv_iconst (v := nI 1) hx hb dX5_gain_83 (by decide) ?_
        refine lv_bipush (v := nI 18) hx hb dX5_gain_84 (by decide) ?_
        refine lv_iload_n hx hb dX5_gain_86 rfl (lv_at hl 1 rfl) ?_
        refine cl_ip (cl_run (rest := [.int (nI 5), .int (nI (lgr (gnL (AL S) j ch o rc) j))]) F hW e_X5_80 (m_at18 hI l hN hV1_11 hkT_11 (by omega) (by omega) j (by rw [hrs_n, adI_n, adI_n]; exact hj)) ⟨Nat.le_of_ble_eq_true rfl, Nat.le_of_ble_eq_true rfl⟩ (by omega) g136_11 rfl rfl rfl hl (Nat.le_of_ble_eq_true rfl) dX5_gain_87 ⟨Nat.zero_le _, Nat.zero_le _⟩) hW (fun H locs hW => ?_)
        refine nv_top (y := ((nI (if lst (gnL (AL S) j ch o rc) j then 1 else 0)))) (b2_n _) ?_
        refine nv_mul F dX5_gain_90 ?_
        refine nv_top (y := ((nI (if lst (gnL (AL S) j ch o rc) j then 5 else 0)))) (congrArg nI (mul5 _)) ?_
        refine nv_add F dX5_gain_91 ?_
        refine lv_iconst (v := nI 2) hx hb dX5_gain_92 (by decide) ?_
        refine lv_iload_n hx hb dX5_gain_93 rfl (lv_at hl 3 rfl) ?_
        refine nv_mul F dX5_gain_94 ?_
        refine lv_isub hx hb dX5_gain_95 ?_
        exact rt_ie F hr hlk hW rfl ⟨(modX_tr hX_11 (fun _ _ => trivial)), (fun z hz => by rw [ho_11 z (by omega)]; rw [eμ10, va_up_ne _ _ (by omega)]; rw [eμ3, va_up_ne _ _ (by omega)]; rw [ho_1 z (by omega)])⟩ dX5_gain_96
  · skip
    refine lv_aload_n hx hb dX5_gain_19 rfl (lv_at hl 0 rfl) ?_
    refine lv_iconst (v := nI 0) hx hb dX5_gain_20 (by decide) ?_
    refine lv_iload_n hx hb dX5_gain_21 rfl (lv_at hl 1 rfl) ?_
    refine lv_iconst (v := nI 3) hx hb dX5_gain_22 (by decide) ?_
    refine cl_ip (cl_run (rest := [.int (nI (Ls (AL S) j)), .int (nI (37 + j)), .ref (xa cx 138)]) F hW e_X5_119 (m_canBring hI l hN hV0_1 hk (by omega) (by omega) j 3 (by omega) (by omega)) ⟨Nat.le_of_ble_eq_true rfl, Nat.le_of_ble_eq_true rfl⟩ (by omega) g136_1 rfl rfl rfl hl (Nat.le_of_ble_eq_true rfl) dX5_gain_23 ⟨Nat.zero_le _, Nat.zero_le _⟩) hW (fun H locs hW => ?_)
    refine nv_beq (tgt := 33) F dX5_gain_26 (by decide) (fun c_12 => ?_) (fun c_12 => ?_)
    · skip
      refine lv_iconst (v := nI 0) hx hb dX5_gain_33 (by decide) ?_
      refine nv_add F dX5_gain_34 ?_
      refine nv_iastN F hW (by omega) g138_1 (by omega) (by decide) dX5_gain_35 (fun H locs hW => ?_)
      obtain ⟨μ13, eμ13⟩ : ∃ zz9 : ME, zz9 = va_up μ1 138 (.inl (xT cx 0, 62, .inl (upd fn_1 (37 + j) ((nI ((Ls (AL S) j) + 0)))))) := ⟨_, rfl⟩
      have hW : St cx s μ13 H locs := by rw [eμ13]; exact hW
      have h136_13 := (congrFun eμ13 136).trans ((va_up_ne _ _ (by omega)).trans g136_1)
      have h137_13 := (congrFun eμ13 137).trans ((va_up_ne _ _ (by omega)).trans g137_1)
      have h138_13 : μ13 138 = .inl (xT cx 0, 62, .inl (upd fn_1 (37 + j) ((nI ((Ls (AL S) j) + 0))))) := by rw [eμ13, va_up_self]
      have h139_13 := (congrFun eμ13 139).trans ((va_up_ne _ _ (by omega)).trans g139_1)
      have h140_13 := (congrFun eμ13 140).trans ((va_up_ne _ _ (by omega)).trans g140_1)
      have h141_13 := (congrFun eμ13 141).trans ((va_up_ne _ _ (by omega)).trans g141_1)
      have h142_13 := (congrFun eμ13 142).trans ((va_up_ne _ _ (by omega)).trans g142_1)
      have h143_13 := (congrFun eμ13 143).trans ((va_up_ne _ _ (by omega)).trans g143_1)
      have h144_13 := (congrFun eμ13 144).trans ((va_up_ne _ _ (by omega)).trans g144_1)
      have h145_13 := (congrFun eμ13 145).trans ((va_up_ne _ _ (by omega)).trans g145_1)
      have h146_13 := (congrFun eμ13 146).trans ((va_up_ne _ _ (by omega)).trans g146_1)
      have h147_13 := (congrFun eμ13 147).trans ((va_up_ne _ _ (by omega)).trans g147_1)
      have h148_13 := (congrFun eμ13 148).trans ((va_up_ne _ _ (by omega)).trans g148_1)
      have hX_t13 : modX cx μ13 S (fun fn => lv fn 31 (adI (AL S) j ch)) := modX_138 hX_1 hn6 g138_1 eμ13 (fun z hz => upd_ne (by omega)) (lv_adI (o := 31) hTr_1 hn6 hj (by first | (rw [if_pos ⟨by omega, by assumption⟩]; done) | (rw [if_neg (fun z => by have := z.1; omega)]; done) | (rw [if_neg (fun z => absurd (z.2.symm.trans (show canA _ _ 3 = false by assumption)) (by decide))]; done)))
      obtain ⟨rh_t13, nx_t13, f1_t13, fn_t13, frd_t13, ft_t13, fo_t13, fa_t13, frw_t13, fh_t13, fu_t13, fb_t13, fz_t13, fkp_t13, g136_t13, g137_t13, g138_t13, g139_t13, g140_t13, g141_t13, g142_t13, g143_t13, g144_t13, g145_t13, g146_t13, g147_t13, g148_t13, hg_t13, hv_t13, ht_t13, hnx_t13, hrw_t13, hse_t13, hkp_t13, hTr_t13⟩ := id hX_t13
      have hs_t13 : shp (adI (AL S) j ch) (AL S) := shp_adI
      have hkT_t13 := lok_adI hk j ch
      have hn_t13 : Ln (adI (AL S) j ch) = Ln (AL S) := hs_t13.1
      have hV0_t13 := modX_V0 hX_t13
      have hV1_t13 := modX_V1 hX_t13 hs_t13
      refine lv_aload_n hx hb dX5_gain_36 rfl (lv_at hl 0 rfl) ?_
      refine nv_get F hW (by omega) g136_t13 rfl iX5 2 (by decide) tw_631 rfl dX5_gain_37 ?_
      refine lv_bipush (v := nI 37) hx hb dX5_gain_40 (by decide) ?_
      refine lv_iload_n hx hb dX5_gain_42 rfl (lv_at hl 2 rfl) ?_
      refine nv_add F dX5_gain_43 ?_
      refine lv_dup2_11 hx hb dX5_gain_44 rfl rfl ?_
      refine nv_ialdN (x := ((nI (Ls (adI (AL S) j ch) o)))) F hW (by omega) g138_t13 (by omega) (by decide) (hTr_t13.1 o (by omega)).2.1 dX5_gain_45 ?_
      refine lv_iload hx hb dX5_gain_46 (lv_at hl 4 rfl) ?_
      refine lv_iconst (v := nI 1) hx hb dX5_gain_48 (by decide) ?_
      refine nv_cne (tgt := 66) F (by omega) (by omega) dX5_gain_49 (by decide) (fun c_14 => ?_) (fun c_14 => ?_)
      · skip
        refine lv_iconst (v := nI 0) hx hb dX5_gain_66 (by decide) ?_
        refine nv_add F dX5_gain_67 ?_
        refine nv_iastN F hW (by omega) g138_t13 (by omega) (by decide) dX5_gain_68 (fun H locs hW => ?_)
        obtain ⟨μ15, eμ15⟩ : ∃ zz9 : ME, zz9 = va_up μ13 138 (.inl (xT cx 0, 62, .inl (upd fn_t13 (37 + o) ((nI ((Ls (adI (AL S) j ch) o) + 0)))))) := ⟨_, rfl⟩
        have hW : St cx s μ15 H locs := by rw [eμ15]; exact hW
        have h136_15 := (congrFun eμ15 136).trans ((va_up_ne _ _ (by omega)).trans g136_t13)
        have h137_15 := (congrFun eμ15 137).trans ((va_up_ne _ _ (by omega)).trans g137_t13)
        have h138_15 : μ15 138 = .inl (xT cx 0, 62, .inl (upd fn_t13 (37 + o) ((nI ((Ls (adI (AL S) j ch) o) + 0))))) := by rw [eμ15, va_up_self]
        have h139_15 := (congrFun eμ15 139).trans ((va_up_ne _ _ (by omega)).trans g139_t13)
        have h140_15 := (congrFun eμ15 140).trans ((va_up_ne _ _ (by omega)).trans g140_t13)
        have h141_15 := (congrFun eμ15 141).trans ((va_up_ne _ _ (by omega)).trans g141_t13)
        have h142_15 := (congrFun eμ15 142).trans ((va_up_ne _ _ (by omega)).trans g142_t13)
        have h143_15 := (congrFun eμ15 143).trans ((va_up_ne _ _ (by omega)).trans g143_t13)
        have h144_15 := (congrFun eμ15 144).trans ((va_up_ne _ _ (by omega)).trans g144_t13)
        have h145_15 := (congrFun eμ15 145).trans ((va_up_ne _ _ (by omega)).trans g145_t13)
        have h146_15 := (congrFun eμ15 146).trans ((va_up_ne _ _ (by omega)).trans g146_t13)
        have h147_15 := (congrFun eμ15 147).trans ((va_up_ne _ _ (by omega)).trans g147_t13)
        have h148_15 := (congrFun eμ15 148).trans ((va_up_ne _ _ (by omega)).trans g148_t13)
        have hX_t15 : modX cx μ15 S (fun fn => lv fn 31 (adI (adI (AL S) j ch) o rc)) := modX_138 hX_t13 hn6 g138_t13 eμ15 (fun z hz => upd_ne (by omega)) (lv_adI (o := 31) hTr_t13 (by rw [adI_n]; exact hn6) (by rw [adI_n]; exact hoo) (by first | (rw [if_pos ⟨by omega, (canA_adI (fun q => hne q.symm)).trans (by assumption)⟩]; done) | (rw [if_neg (fun z => by have := z.1; omega)]; done) | (rw [if_neg (fun z => absurd (((canA_adI (fun q => hne q.symm)).symm.trans z.2).symm.trans (show canA (AL S) o 3 = false by assumption)) (by decide))]; done)))
        obtain ⟨rh_t15, nx_t15, f1_t15, fn_t15, frd_t15, ft_t15, fo_t15, fa_t15, frw_t15, fh_t15, fu_t15, fb_t15, fz_t15, fkp_t15, g136_t15, g137_t15, g138_t15, g139_t15, g140_t15, g141_t15, g142_t15, g143_t15, g144_t15, g145_t15, g146_t15, g147_t15, g148_t15, hg_t15, hv_t15, ht_t15, hnx_t15, hrw_t15, hse_t15, hkp_t15, hTr_t15⟩ := id hX_t15
        have hs_t15 : shp (adI (adI (AL S) j ch) o rc) (AL S) := shp_tr shp_adI shp_adI
        have hkT_t15 := lok_adI (lok_adI hk j ch) o rc
        have hn_t15 : Ln (adI (adI (AL S) j ch) o rc) = Ln (AL S) := hs_t15.1
        have hV0_t15 := modX_V0 hX_t15
        have hV1_t15 := modX_V1 hX_t15 hs_t15
        refine lv_aload_n hx hb dX5_gain_69 rfl (lv_at hl 0 rfl) ?_
        refine lv_iconst (v := nI 4) hx hb dX5_gain_70 (by decide) ?_
        refine cl_ie (cl_run (rest := []) F hW e_X5_137 (m_goOn hI l hN hX_t15 hA hMo hB hs_t15 hkT_t15 (by omega) 4 (by omega)) ⟨Nat.le_of_ble_eq_true rfl, Nat.le_of_ble_eq_true rfl⟩ (by omega) g136_t15 rfl rfl rfl hl (Nat.le_of_ble_eq_true rfl) dX5_gain_71 ⟨Nat.zero_le _, Nat.zero_le _⟩) hW (fun μ16 H locs q_16 hW => ?_)
        obtain ⟨hX_16, ho_16⟩ := q_16
        obtain ⟨rh_16, nx_16, f1_16, fn_16, frd_16, ft_16, fo_16, fa_16, frw_16, fh_16, fu_16, fb_16, fz_16, fkp_16, g136_16, g137_16, g138_16, g139_16, g140_16, g141_16, g142_16, g143_16, g144_16, g145_16, g146_16, g147_16, g148_16, hg_16, hv_16, ht_16, hnx_16, hrw_16, hse_16, hkp_16, hTr_16⟩ := id hX_16
        have hs_16 : shp (hrs 4 (adI (adI (AL S) j ch) o rc)) (AL S) := shp_tr (shp_hrs 4) hs_t15
        have hkT_16 := lok_hrs hkT_t15 4
        have hn_16 : Ln (hrs 4 (adI (adI (AL S) j ch) o rc)) = Ln (AL S) := hs_16.1
        have hV0_16 := modX_V0 hX_16
        have hV1_16 := modX_V1 hX_16 hs_16
        refine lv_pop hx hb dX5_gain_74 rfl ?_
        refine lv_aload_n hx hb dX5_gain_75 rfl (lv_at hl 0 rfl) ?_
        refine lv_iconst (v := nI 1) hx hb dX5_gain_76 (by decide) ?_
        refine lv_iload_n hx hb dX5_gain_77 rfl (lv_at hl 1 rfl) ?_
        refine cl_ip (cl_run (rest := []) F hW e_X5_99 (m_groundOf hI l hN hV1_16 hkT_16 (by omega) (by omega) j (by rw [hrs_n, adI_n, adI_n]; exact hj)) ⟨Nat.le_of_ble_eq_true rfl, Nat.le_of_ble_eq_true rfl⟩ (by omega) g136_16 rfl rfl rfl hl (Nat.le_of_ble_eq_true rfl) dX5_gain_78 ⟨Nat.zero_le _, Nat.zero_le _⟩) hW (fun H locs hW => ?_)
        refine nv_top (y := ((nI (lgr (gnL (AL S) j ch o rc) j)))) rfl ?_
        refine lv_iconst (v := nI 5) hx hb dX5_gain_81 (by decide) ?_
        refine lv_aload_n hx hb dX5_gain_82 rfl (lv_at hl 0 rfl) ?_
        refine lv_iconst (v := nI 1) hx hb dX5_gain_83 (by decide) ?_
        refine lv_bipush (v := nI 18) hx hb dX5_gain_84 (by decide) ?_
        refine lv_iload_n hx hb dX5_gain_86 rfl (lv_at hl 1 rfl) ?_
        refine cl_ip (cl_run (rest := [.int (nI 5), .int (nI (lgr (gnL (AL S) j ch o rc) j))]) F hW e_X5_80 (m_at18 hI l hN hV1_16 hkT_16 (by omega) (by omega) j (by rw [hrs_n, adI_n, adI_n]; exact hj)) ⟨Nat.le_of_ble_eq_true rfl, Nat.le_of_ble_eq_true rfl⟩ (by omega) g136_16 rfl rfl rfl hl (Nat.le_of_ble_eq_true rfl) dX5_gain_87 ⟨Nat.zero_le _, Nat.zero_le _⟩) hW (fun H locs hW => ?_)
        refine nv_top (y := ((nI (if lst (gnL (AL S) j ch o rc) j then 1 else 0)))) (b2_n _) ?_
        refine nv_mul F dX5_gain_90 ?_
        refine nv_top (y := ((nI (if lst (gnL (AL S) j ch o rc) j then 5 else 0)))) (congrArg nI (mul5 _)) ?_
        refine nv_add F dX5_gain_91 ?_
        refine lv_iconst (v := nI 2) hx hb dX5_gain_92 (by decide) ?_
        refine lv_iload_n hx hb dX5_gain_93 rfl (lv_at hl 3 rfl) ?_
        refine nv_mul F dX5_gain_94 ?_
        refine lv_isub hx hb dX5_gain_95 ?_
        exact rt_ie F hr hlk hW rfl ⟨(modX_tr hX_16 (fun _ _ => trivial)), (fun z hz => by rw [ho_16 z (by omega)]; rw [eμ15, va_up_ne _ _ (by omega)]; rw [eμ13, va_up_ne _ _ (by omega)]; rw [ho_1 z (by omega)])⟩ dX5_gain_96
      · skip
        refine lv_aload_n hx hb dX5_gain_52 rfl (lv_at hl 0 rfl) ?_
        refine lv_iconst (v := nI 0) hx hb dX5_gain_53 (by decide) ?_
        refine lv_iload_n hx hb dX5_gain_54 rfl (lv_at hl 2 rfl) ?_
        refine lv_iconst (v := nI 3) hx hb dX5_gain_55 (by decide) ?_
        refine cl_ip (cl_run (rest := [.int (nI (Ls (adI (AL S) j ch) o)), .int (nI (37 + o)), .ref (xa cx 138)]) F hW e_X5_119 (m_canBring hI l hN hV0_t13 hk (by omega) (by omega) o 3 (by omega) (by omega)) ⟨Nat.le_of_ble_eq_true rfl, Nat.le_of_ble_eq_true rfl⟩ (by omega) g136_t13 rfl rfl rfl hl (Nat.le_of_ble_eq_true rfl) dX5_gain_56 ⟨Nat.zero_le _, Nat.zero_le _⟩) hW (fun H locs hW => ?_)
        refine nv_beq (tgt := 66) F dX5_gain_59 (by decide) (fun c_17 => ?_) (fun c_17 => ?_)
        · skip
          refine lv_iconst (v := nI 0) hx hb dX5_gain_66 (by decide) ?_
          refine nv_add F dX5_gain_67 ?_
          refine nv_iastN F hW (by omega) g138_t13 (by omega) (by decide) dX5_gain_68 (fun H locs hW => ?_)
          obtain ⟨μ18, eμ18⟩ : ∃ zz9 : ME, zz9 = va_up μ13 138 (.inl (xT cx 0, 62, .inl (upd fn_t13 (37 + o) ((nI ((Ls (adI (AL S) j ch) o) + 0)))))) := ⟨_, rfl⟩
          have hW : St cx s μ18 H locs := by rw [eμ18]; exact hW
          have h136_18 := (congrFun eμ18 136).trans ((va_up_ne _ _ (by omega)).trans g136_t13)
          have h137_18 := (congrFun eμ18 137).trans ((va_up_ne _ _ (by omega)).trans g137_t13)
          have h138_18 : μ18 138 = .inl (xT cx 0, 62, .inl (upd fn_t13 (37 + o) ((nI ((Ls (adI (AL S) j ch) o) + 0))))) := by rw [eμ18, va_up_self]
          have h139_18 := (congrFun eμ18 139).trans ((va_up_ne _ _ (by omega)).trans g139_t13)
          have h140_18 := (congrFun eμ18 140).trans ((va_up_ne _ _ (by omega)).trans g140_t13)
          have h141_18 := (congrFun eμ18 141).trans ((va_up_ne _ _ (by omega)).trans g141_t13)
          have h142_18 := (congrFun eμ18 142).trans ((va_up_ne _ _ (by omega)).trans g142_t13)
          have h143_18 := (congrFun eμ18 143).trans ((va_up_ne _ _ (by omega)).trans g143_t13)
          have h144_18 := (congrFun eμ18 144).trans ((va_up_ne _ _ (by omega)).trans g144_t13)
          have h145_18 := (congrFun eμ18 145).trans ((va_up_ne _ _ (by omega)).trans g145_t13)
          have h146_18 := (congrFun eμ18 146).trans ((va_up_ne _ _ (by omega)).trans g146_t13)
          have h147_18 := (congrFun eμ18 147).trans ((va_up_ne _ _ (by omega)).trans g147_t13)
          have h148_18 := (congrFun eμ18 148).trans ((va_up_ne _ _ (by omega)).trans g148_t13)
          have hX_t18 : modX cx μ18 S (fun fn => lv fn 31 (adI (adI (AL S) j ch) o rc)) := modX_138 hX_t13 hn6 g138_t13 eμ18 (fun z hz => upd_ne (by omega)) (lv_adI (o := 31) hTr_t13 (by rw [adI_n]; exact hn6) (by rw [adI_n]; exact hoo) (by first | (rw [if_pos ⟨by omega, (canA_adI (fun q => hne q.symm)).trans (by assumption)⟩]; done) | (rw [if_neg (fun z => by have := z.1; omega)]; done) | (rw [if_neg (fun z => absurd (((canA_adI (fun q => hne q.symm)).symm.trans z.2).symm.trans (show canA (AL S) o 3 = false by assumption)) (by decide))]; done)))
          obtain ⟨rh_t18, nx_t18, f1_t18, fn_t18, frd_t18, ft_t18, fo_t18, fa_t18, frw_t18, fh_t18, fu_t18, fb_t18, fz_t18, fkp_t18, g136_t18, g137_t18, g138_t18, g139_t18, g140_t18, g141_t18, g142_t18, g143_t18, g144_t18, g145_t18, g146_t18, g147_t18, g148_t18, hg_t18, hv_t18, ht_t18, hnx_t18, hrw_t18, hse_t18, hkp_t18, hTr_t18⟩ := id hX_t18
          have hs_t18 : shp (adI (adI (AL S) j ch) o rc) (AL S) := shp_tr shp_adI shp_adI
          have hkT_t18 := lok_adI (lok_adI hk j ch) o rc
          have hn_t18 : Ln (adI (adI (AL S) j ch) o rc) = Ln (AL S) := hs_t18.1
          have hV0_t18 := modX_V0 hX_t18
          have hV1_t18 := modX_V1 hX_t18 hs_t18
          refine lv_aload_n hx hb dX5_gain_69 rfl (lv_at hl 0 rfl) ?_
          refine lv_iconst (v := nI 4) hx hb dX5_gain_70 (by decide) ?_
          refine cl_ie (cl_run (rest := []) F hW e_X5_137 (m_goOn hI l hN hX_t18 hA hMo hB hs_t18 hkT_t18 (by omega) 4 (by omega)) ⟨Nat.le_of_ble_eq_true rfl, Nat.le_of_ble_eq_true rfl⟩ (by omega) g136_t18 rfl rfl rfl hl (Nat.le_of_ble_eq_true rfl) dX5_gain_71 ⟨Nat.zero_le _, Nat.zero_le _⟩) hW (fun μ19 H locs q_19 hW => ?_)
          obtain ⟨hX_19, ho_19⟩ := q_19
          obtain ⟨rh_19, nx_19, f1_19, fn_19, frd_19, ft_19, fo_19, fa_19, frw_19, fh_19, fu_19, fb_19, fz_19, fkp_19, g136_19, g137_19, g138_19, g139_19, g140_19, g141_19, g142_19, g143_19, g144_19, g145_19, g146_19, g147_19, g148_19, hg_19, hv_19, ht_19, hnx_19, hrw_19, hse_19, hkp_19, hTr_19⟩ := id hX_19
          have hs_19 : shp (hrs 4 (adI (adI (AL S) j ch) o rc)) (AL S) := shp_tr (shp_hrs 4) hs_t18
          have hkT_19 := lok_hrs hkT_t18 4
          have hn_19 : Ln (hrs 4 (adI (adI (AL S) j ch) o rc)) = Ln (AL S) := hs_19.1
          have hV0_19 := modX_V0 hX_19
          have hV1_19 := modX_V1 hX_19 hs_19
          refine lv_pop hx hb dX5_gain_74 rfl ?_
          refine lv_aload_n hx hb dX5_gain_75 rfl (lv_at hl 0 rfl) ?_
          refine lv_iconst (v := nI 1) hx hb dX5_gain_76 (by decide) ?_
          refine lv_iload_n hx hb dX5_gain_77 rfl (lv_at hl 1 rfl) ?_
          refine cl_ip (cl_run (rest := []) F hW e_X5_99 (m_groundOf hI l hN hV1_19 hkT_19 (by omega) (by omega) j (by rw [hrs_n, adI_n, adI_n]; exact hj)) ⟨Nat.le_of_ble_eq_true rfl, Nat.le_of_ble_eq_true rfl⟩ (by omega) g136_19 rfl rfl rfl hl (Nat.le_of_ble_eq_true rfl) dX5_gain_78 ⟨Nat.zero_le _, Nat.zero_le _⟩) hW (fun H locs hW => ?_)
          refine nv_top (y := ((nI (lgr (gnL (AL S) j ch o rc) j)))) rfl ?_
          refine lv_iconst (v := nI 5) hx hb dX5_gain_81 (by decide) ?_
          refine lv_aload_n hx hb dX5_gain_82 rfl (lv_at hl 0 rfl) ?_
          refine lv_iconst (v := nI 1) hx hb dX5_gain_83 (by decide) ?_
          refine lv_bipush (v := nI 18) hx hb dX5_gain_84 (by decide) ?_
          refine lv_iload_n hx hb dX5_gain_86 rfl (lv_at hl 1 rfl) ?_
          refine cl_ip (cl_run (rest := [.int (nI 5), .int (nI (lgr (gnL (AL S) j ch o rc) j))]) F hW e_X5_80 (m_at18 hI l hN hV1_19 hkT_19 (by omega) (by omega) j (by rw [hrs_n, adI_n, adI_n]; exact hj)) ⟨Nat.le_of_ble_eq_true rfl, Nat.le_of_ble_eq_true rfl⟩ (by omega) g136_19 rfl rfl rfl hl (Nat.le_of_ble_eq_true rfl) dX5_gain_87 ⟨Nat.zero_le _, Nat.zero_le _⟩) hW (fun H locs hW => ?_)
          refine nv_top (y := ((nI (if lst (gnL (AL S) j ch o rc) j then 1 else 0)))) (b2_n _) ?_
          refine nv_mul F dX5_gain_90 ?_
          refine nv_top (y := ((nI (if lst (gnL (AL S) j ch o rc) j then 5 else 0)))) (congrArg nI (mul5 _)) ?_
          refine nv_add F dX5_gain_91 ?_
          refine lv_iconst (v := nI 2) hx hb dX5_gain_92 (by decide) ?_
          refine lv_iload_n hx hb dX5_gain_93 rfl (lv_at hl 3 rfl) ?_
          refine nv_mul F dX5_gain_94 ?_
          refine lv_isub hx hb dX5_gain_95 ?_
          exact rt_ie F hr hlk hW rfl ⟨(modX_tr hX_19 (fun _ _ => trivial)), (fun z hz => by rw [ho_19 z (by omega)]; rw [eμ18, va_up_ne _ _ (by omega)]; rw [eμ13, va_up_ne _ _ (by omega)]; rw [ho_1 z (by omega)])⟩ dX5_gain_96
        · skip
          refine lv_iconst (v := nI 3) hx hb dX5_gain_62 (by decide) ?_
          refine lv_goto (tgt := 67) hx hb dX5_gain_63 (by decide) ?_
          refine nv_add F dX5_gain_67 ?_
          refine nv_iastN F hW (by omega) g138_t13 (by omega) (by decide) dX5_gain_68 (fun H locs hW => ?_)
          obtain ⟨μ20, eμ20⟩ : ∃ zz9 : ME, zz9 = va_up μ13 138 (.inl (xT cx 0, 62, .inl (upd fn_t13 (37 + o) ((nI ((Ls (adI (AL S) j ch) o) + 3)))))) := ⟨_, rfl⟩
          have hW : St cx s μ20 H locs := by rw [eμ20]; exact hW
          have h136_20 := (congrFun eμ20 136).trans ((va_up_ne _ _ (by omega)).trans g136_t13)
          have h137_20 := (congrFun eμ20 137).trans ((va_up_ne _ _ (by omega)).trans g137_t13)
          have h138_20 : μ20 138 = .inl (xT cx 0, 62, .inl (upd fn_t13 (37 + o) ((nI ((Ls (adI (AL S) j ch) o) + 3))))) := by rw [eμ20, va_up_self]
          have h139_20 := (congrFun eμ20 139).trans ((va_up_ne _ _ (by omega)).trans g139_t13)
          have h140_20 := (congrFun eμ20 140).trans ((va_up_ne _ _ (by omega)).trans g140_t13)
          have h141_20 := (congrFun eμ20 141).trans ((va_up_ne _ _ (by omega)).trans g141_t13)
          have h142_20 := (congrFun eμ20 142).trans ((va_up_ne _ _ (by omega)).trans g142_t13)
          have h143_20 := (congrFun eμ20 143).trans ((va_up_ne _ _ (by omega)).trans g143_t13)
          have h144_20 := (congrFun eμ20 144).trans ((va_up_ne _ _ (by omega)).trans g144_t13)
          have h145_20 := (congrFun eμ20 145).trans ((va_up_ne _ _ (by omega)).trans g145_t13)
          have h146_20 := (congrFun eμ20 146).trans ((va_up_ne _ _ (by omega)).trans g146_t13)
          have h147_20 := (congrFun eμ20 147).trans ((va_up_ne _ _ (by omega)).trans g147_t13)
          have h148_20 := (congrFun eμ20 148).trans ((va_up_ne _ _ (by omega)).trans g148_t13)
          have hX_t20 : modX cx μ20 S (fun fn => lv fn 31 (adI (adI (AL S) j ch) o rc)) := modX_138 hX_t13 hn6 g138_t13 eμ20 (fun z hz => upd_ne (by omega)) (lv_adI (o := 31) hTr_t13 (by rw [adI_n]; exact hn6) (by rw [adI_n]; exact hoo) (by first | (rw [if_pos ⟨by omega, (canA_adI (fun q => hne q.symm)).trans (by assumption)⟩]; done) | (rw [if_neg (fun z => by have := z.1; omega)]; done) | (rw [if_neg (fun z => absurd (((canA_adI (fun q => hne q.symm)).symm.trans z.2).symm.trans (show canA (AL S) o 3 = false by assumption)) (by decide))]; done)))
          obtain ⟨rh_t20, nx_t20, f1_t20, fn_t20, frd_t20, ft_t20, fo_t20, fa_t20, frw_t20, fh_t20, fu_t20, fb_t20, fz_t20, fkp_t20, g136_t20, g137_t20, g138_t20, g139_t20, g140_t20, g141_t20, g142_t20, g143_t20, g144_t20, g145_t20, g146_t20, g147_t20, g148_t20, hg_t20, hv_t20, ht_t20, hnx_t20, hrw_t20, hse_t20, hkp_t20, hTr_t20⟩ := id hX_t20
          have hs_t20 : shp (adI (adI (AL S) j ch) o rc) (AL S) := shp_tr shp_adI shp_adI
          have hkT_t20 := lok_adI (lok_adI hk j ch) o rc
          have hn_t20 : Ln (adI (adI (AL S) j ch) o rc) = Ln (AL S) := hs_t20.1
          have hV0_t20 := modX_V0 hX_t20
          have hV1_t20 := modX_V1 hX_t20 hs_t20
          refine lv_aload_n hx hb dX5_gain_69 rfl (lv_at hl 0 rfl) ?_
          refine lv_iconst (v := nI 4) hx hb dX5_gain_70 (by decide) ?_
          refine cl_ie (cl_run (rest := []) F hW e_X5_137 (m_goOn hI l hN hX_t20 hA hMo hB hs_t20 hkT_t20 (by omega) 4 (by omega)) ⟨Nat.le_of_ble_eq_true rfl, Nat.le_of_ble_eq_true rfl⟩ (by omega) g136_t20 rfl rfl rfl hl (Nat.le_of_ble_eq_true rfl) dX5_gain_71 ⟨Nat.zero_le _, Nat.zero_le _⟩) hW (fun μ21 H locs q_21 hW => ?_)
          obtain ⟨hX_21, ho_21⟩ := q_21
          obtain ⟨rh_21, nx_21, f1_21, fn_21, frd_21, ft_21, fo_21, fa_21, frw_21, fh_21, fu_21, fb_21, fz_21, fkp_21, g136_21, g137_21, g138_21, g139_21, g140_21, g141_21, g142_21, g143_21, g144_21, g145_21, g146_21, g147_21, g148_21, hg_21, hv_21, ht_21, hnx_21, hrw_21, hse_21, hkp_21, hTr_21⟩ := id hX_21
          have hs_21 : shp (hrs 4 (adI (adI (AL S) j ch) o rc)) (AL S) := shp_tr (shp_hrs 4) hs_t20
          have hkT_21 := lok_hrs hkT_t20 4
          have hn_21 : Ln (hrs 4 (adI (adI (AL S) j ch) o rc)) = Ln (AL S) := hs_21.1
          have hV0_21 := modX_V0 hX_21
          have hV1_21 := modX_V1 hX_21 hs_21
          refine lv_pop hx hb dX5_gain_74 rfl ?_
          refine lv_aload_n hx hb dX5_gain_75 rfl (lv_at hl 0 rfl) ?_
          refine lv_iconst (v := nI 1) hx hb dX5_gain_76 (by decide) ?_
          refine lv_iload_n hx hb dX5_gain_77 rfl (lv_at hl 1 rfl) ?_
          refine cl_ip (cl_run (rest := []) F hW e_X5_99 (m_groundOf hI l hN hV1_21 hkT_21 (by omega) (by omega) j (by rw [hrs_n, adI_n, adI_n]; exact hj)) ⟨Nat.le_of_ble_eq_true rfl, Nat.le_of_ble_eq_true rfl⟩ (by omega) g136_21 rfl rfl rfl hl (Nat.le_of_ble_eq_true rfl) dX5_gain_78 ⟨Nat.zero_le _, Nat.zero_le _⟩) hW (fun H locs hW => ?_)
          refine nv_top (y := ((nI (lgr (gnL (AL S) j ch o rc) j)))) rfl ?_
          refine lv_iconst (v := nI 5) hx hb dX5_gain_81 (by decide) ?_
          refine lv_aload_n hx hb dX5_gain_82 rfl (lv_at hl 0 rfl) ?_
          refine lv_iconst (v := nI 1) hx hb dX5_gain_83 (by decide) ?_
          refine lv_bipush (v := nI 18) hx hb dX5_gain_84 (by decide) ?_
          refine lv_iload_n hx hb dX5_gain_86 rfl (lv_at hl 1 rfl) ?_
          refine cl_ip (cl_run (rest := [.int (nI 5), .int (nI (lgr (gnL (AL S) j ch o rc) j))]) F hW e_X5_80 (m_at18 hI l hN hV1_21 hkT_21 (by omega) (by omega) j (by rw [hrs_n, adI_n, adI_n]; exact hj)) ⟨Nat.le_of_ble_eq_true rfl, Nat.le_of_ble_eq_true rfl⟩ (by omega) g136_21 rfl rfl rfl hl (Nat.le_of_ble_eq_true rfl) dX5_gain_87 ⟨Nat.zero_le _, Nat.zero_le _⟩) hW (fun H locs hW => ?_)
          refine nv_top (y := ((nI (if lst (gnL (AL S) j ch o rc) j then 1 else 0)))) (b2_n _) ?_
          refine nv_mul F dX5_gain_90 ?_
          refine nv_top (y := ((nI (if lst (gnL (AL S) j ch o rc) j then 5 else 0)))) (congrArg nI (mul5 _)) ?_
          refine nv_add F dX5_gain_91 ?_
          refine lv_iconst (v := nI 2) hx hb dX5_gain_92 (by decide) ?_
          refine lv_iload_n hx hb dX5_gain_93 rfl (lv_at hl 3 rfl) ?_
          refine nv_mul F dX5_gain_94 ?_
          refine lv_isub hx hb dX5_gain_95 ?_
          exact rt_ie F hr hlk hW rfl ⟨(modX_tr hX_21 (fun _ _ => trivial)), (fun z hz => by rw [ho_21 z (by omega)]; rw [eμ20, va_up_ne _ _ (by omega)]; rw [eμ13, va_up_ne _ _ (by omega)]; rw [ho_1 z (by omega)])⟩ dX5_gain_96
    · skip
      refine lv_iconst (v := nI 3) hx hb dX5_gain_29 (by decide) ?_
      refine lv_goto (tgt := 34) hx hb dX5_gain_30 (by decide) ?_
      refine nv_add F dX5_gain_34 ?_
      refine nv_iastN F hW (by omega) g138_1 (by omega) (by decide) dX5_gain_35 (fun H locs hW => ?_)
      obtain ⟨μ22, eμ22⟩ : ∃ zz9 : ME, zz9 = va_up μ1 138 (.inl (xT cx 0, 62, .inl (upd fn_1 (37 + j) ((nI ((Ls (AL S) j) + 3)))))) := ⟨_, rfl⟩
      have hW : St cx s μ22 H locs := by rw [eμ22]; exact hW
      have h136_22 := (congrFun eμ22 136).trans ((va_up_ne _ _ (by omega)).trans g136_1)
      have h137_22 := (congrFun eμ22 137).trans ((va_up_ne _ _ (by omega)).trans g137_1)
      have h138_22 : μ22 138 = .inl (xT cx 0, 62, .inl (upd fn_1 (37 + j) ((nI ((Ls (AL S) j) + 3))))) := by rw [eμ22, va_up_self]
      have h139_22 := (congrFun eμ22 139).trans ((va_up_ne _ _ (by omega)).trans g139_1)
      have h140_22 := (congrFun eμ22 140).trans ((va_up_ne _ _ (by omega)).trans g140_1)
      have h141_22 := (congrFun eμ22 141).trans ((va_up_ne _ _ (by omega)).trans g141_1)
      have h142_22 := (congrFun eμ22 142).trans ((va_up_ne _ _ (by omega)).trans g142_1)
      have h143_22 := (congrFun eμ22 143).trans ((va_up_ne _ _ (by omega)).trans g143_1)
      have h144_22 := (congrFun eμ22 144).trans ((va_up_ne _ _ (by omega)).trans g144_1)
      have h145_22 := (congrFun eμ22 145).trans ((va_up_ne _ _ (by omega)).trans g145_1)
      have h146_22 := (congrFun eμ22 146).trans ((va_up_ne _ _ (by omega)).trans g146_1)
      have h147_22 := (congrFun eμ22 147).trans ((va_up_ne _ _ (by omega)).trans g147_1)
      have h148_22 := (congrFun eμ22 148).trans ((va_up_ne _ _ (by omega)).trans g148_1)
      have hX_t22 : modX cx μ22 S (fun fn => lv fn 31 (adI (AL S) j ch)) := modX_138 hX_1 hn6 g138_1 eμ22 (fun z hz => upd_ne (by omega)) (lv_adI (o := 31) hTr_1 hn6 hj (by first | (rw [if_pos ⟨by omega, by assumption⟩]; done) | (rw [if_neg (fun z => by have := z.1; omega)]; done) | (rw [if_neg (fun z => absurd (z.2.symm.trans (show canA _ _ 3 = false by assumption)) (by decide))]; done)))
      obtain ⟨rh_t22, nx_t22, f1_t22, fn_t22, frd_t22, ft_t22, fo_t22, fa_t22, frw_t22, fh_t22, fu_t22, fb_t22, fz_t22, fkp_t22, g136_t22, g137_t22, g138_t22, g139_t22, g140_t22, g141_t22, g142_t22, g143_t22, g144_t22, g145_t22, g146_t22, g147_t22, g148_t22, hg_t22, hv_t22, ht_t22, hnx_t22, hrw_t22, hse_t22, hkp_t22, hTr_t22⟩ := id hX_t22
      have hs_t22 : shp (adI (AL S) j ch) (AL S) := shp_adI
      have hkT_t22 := lok_adI hk j ch
      have hn_t22 : Ln (adI (AL S) j ch) = Ln (AL S) := hs_t22.1
      have hV0_t22 := modX_V0 hX_t22
      have hV1_t22 := modX_V1 hX_t22 hs_t22
      refine lv_aload_n hx hb dX5_gain_36 rfl (lv_at hl 0 rfl) ?_
      refine nv_get F hW (by omega) g136_t22 rfl iX5 2 (by decide) tw_631 rfl dX5_gain_37 ?_
      refine lv_bipush (v := nI 37) hx hb dX5_gain_40 (by decide) ?_
      refine lv_iload_n hx hb dX5_gain_42 rfl (lv_at hl 2 rfl) ?_
      refine nv_add F dX5_gain_43 ?_
      refine lv_dup2_11 hx hb dX5_gain_44 rfl rfl ?_
      refine nv_ialdN (x := ((nI (Ls (adI (AL S) j ch) o)))) F hW (by omega) g138_t22 (by omega) (by decide) (hTr_t22.1 o (by omega)).2.1 dX5_gain_45 ?_
      refine lv_iload hx hb dX5_gain_46 (lv_at hl 4 rfl) ?_
      refine lv_iconst (v := nI 1) hx hb dX5_gain_48 (by decide) ?_
      refine nv_cne (tgt := 66) F (by omega) (by omega) dX5_gain_49 (by decide) (fun c_23 => ?_) (fun c_23 => ?_)
      · skip
        refine lv_iconst (v := nI 0) hx hb dX5_gain_66 (by decide) ?_
        refine nv_add F dX5_gain_67 ?_
        refine nv_iastN F hW (by omega) g138_t22 (by omega) (by decide) dX5_gain_68 (fun H locs hW => ?_)
        obtain ⟨μ24, eμ24⟩ : ∃ zz9 : ME, zz9 = va_up μ22 138 (.inl (xT cx 0, 62, .inl (upd fn_t22 (37 + o) ((nI ((Ls (adI (AL S) j ch) o) + 0)))))) := ⟨_, rfl⟩
        have hW : St cx s μ24 H locs := by rw [eμ24]; exact hW
        have h136_24 := (congrFun eμ24 136).trans ((va_up_ne _ _ (by omega)).trans g136_t22)
        have h137_24 := (congrFun eμ24 137).trans ((va_up_ne _ _ (by omega)).trans g137_t22)
        have h138_24 : μ24 138 = .inl (xT cx 0, 62, .inl (upd fn_t22 (37 + o) ((nI ((Ls (adI (AL S) j ch) o) + 0))))) := by rw [eμ24, va_up_self]
        have h139_24 := (congrFun eμ24 139).trans ((va_up_ne _ _ (by omega)).trans g139_t22)
        have h140_24 := (congrFun eμ24 140).trans ((va_up_ne _ _ (by omega)).trans g140_t22)
        have h141_24 := (congrFun eμ24 141).trans ((va_up_ne _ _ (by omega)).trans g141_t22)
        have h142_24 := (congrFun eμ24 142).trans ((va_up_ne _ _ (by omega)).trans g142_t22)
        have h143_24 := (congrFun eμ24 143).trans ((va_up_ne _ _ (by omega)).trans g143_t22)
        have h144_24 := (congrFun eμ24 144).trans ((va_up_ne _ _ (by omega)).trans g144_t22)
        have h145_24 := (congrFun eμ24 145).trans ((va_up_ne _ _ (by omega)).trans g145_t22)
        have h146_24 := (congrFun eμ24 146).trans ((va_up_ne _ _ (by omega)).trans g146_t22)
        have h147_24 := (congrFun eμ24 147).trans ((va_up_ne _ _ (by omega)).trans g147_t22)
        have h148_24 := (congrFun eμ24 148).trans ((va_up_ne _ _ (by omega)).trans g148_t22)
        have hX_t24 : modX cx μ24 S (fun fn => lv fn 31 (adI (adI (AL S) j ch) o rc)) := modX_138 hX_t22 hn6 g138_t22 eμ24 (fun z hz => upd_ne (by omega)) (lv_adI (o := 31) hTr_t22 (by rw [adI_n]; exact hn6) (by rw [adI_n]; exact hoo) (by first | (rw [if_pos ⟨by omega, (canA_adI (fun q => hne q.symm)).trans (by assumption)⟩]; done) | (rw [if_neg (fun z => by have := z.1; omega)]; done) | (rw [if_neg (fun z => absurd (((canA_adI (fun q => hne q.symm)).symm.trans z.2).symm.trans (show canA (AL S) o 3 = false by assumption)) (by decide))]; done)))
        obtain ⟨rh_t24, nx_t24, f1_t24, fn_t24, frd_t24, ft_t24, fo_t24, fa_t24, frw_t24, fh_t24, fu_t24, fb_t24, fz_t24, fkp_t24, g136_t24, g137_t24, g138_t24, g139_t24, g140_t24, g141_t24, g142_t24, g143_t24, g144_t24, g145_t24, g146_t24, g147_t24, g148_t24, hg_t24, hv_t24, ht_t24, hnx_t24, hrw_t24, hse_t24, hkp_t24, hTr_t24⟩ := id hX_t24
        have hs_t24 : shp (adI (adI (AL S) j ch) o rc) (AL S) := shp_tr shp_adI shp_adI
        have hkT_t24 := lok_adI (lok_adI hk j ch) o rc
        have hn_t24 : Ln (adI (adI (AL S) j ch) o rc) = Ln (AL S) := hs_t24.1
        have hV0_t24 := modX_V0 hX_t24
        have hV1_t24 := modX_V1 hX_t24 hs_t24
        refine lv_aload_n hx hb dX5_gain_69 rfl (lv_at hl 0 rfl) ?_
        refine lv_iconst (v := nI 4) hx hb dX5_gain_70 (by decide) ?_
        refine cl_ie (cl_run (rest := []) F hW e_X5_137 (m_goOn hI l hN hX_t24 hA hMo hB hs_t24 hkT_t24 (by omega) 4 (by omega)) ⟨Nat.le_of_ble_eq_true rfl, Nat.le_of_ble_eq_true rfl⟩ (by omega) g136_t24 rfl rfl rfl hl (Nat.le_of_ble_eq_true rfl) dX5_gain_71 ⟨Nat.zero_le _, Nat.zero_le _⟩) hW (fun μ25 H locs q_25 hW => ?_)
        obtain ⟨hX_25, ho_25⟩ := q_25
        obtain ⟨rh_25, nx_25, f1_25, fn_25, frd_25, ft_25, fo_25, fa_25, frw_25, fh_25, fu_25, fb_25, fz_25, fkp_25, g136_25, g137_25, g138_25, g139_25, g140_25, g141_25, g142_25, g143_25, g144_25, g145_25, g146_25, g147_25, g148_25, hg_25, hv_25, ht_25, hnx_25, hrw_25, hse_25, hkp_25, hTr_25⟩ := id hX_25
        have hs_25 : shp (hrs 4 (adI (adI (AL S) j ch) o rc)) (AL S) := shp_tr (shp_hrs 4) hs_t24
        have hkT_25 := lok_hrs hkT_t24 4
        have hn_25 : Ln (hrs 4 (adI (adI (AL S) j ch) o rc)) = Ln (AL S) := hs_25.1
        have hV0_25 := modX_V0 hX_25
        have hV1_25 := modX_V1 hX_25 hs_25
        refine lv_pop hx hb dX5_gain_74 rfl ?_
        refine lv_aload_n hx hb dX5_gain_75 rfl (lv_at hl 0 rfl) ?_
        refine lv_iconst (v := nI 1) hx hb dX5_gain_76 (by decide) ?_
        refine lv_iload_n hx hb dX5_gain_77 rfl (lv_at hl 1 rfl) ?_
        refine cl_ip (cl_run (rest := []) F hW e_X5_99 (m_groundOf hI l hN hV1_25 hkT_25 (by omega) (by omega) j (by rw [hrs_n, adI_n, adI_n]; exact hj)) ⟨Nat.le_of_ble_eq_true rfl, Nat.le_of_ble_eq_true rfl⟩ (by omega) g136_25 rfl rfl rfl hl (Nat.le_of_ble_eq_true rfl) dX5_gain_78 ⟨Nat.zero_le _, Nat.zero_le _⟩) hW (fun H locs hW => ?_)
        refine nv_top (y := ((nI (lgr (gnL (AL S) j ch o rc) j)))) rfl ?_
        refine lv_iconst (v := nI 5) hx hb dX5_gain_81 (by decide) ?_
        refine lv_aload_n hx hb dX5_gain_82 rfl (lv_at hl 0 rfl) ?_
        refine lv_iconst (v := nI 1) hx hb dX5_gain_83 (by decide) ?_
        refine lv_bipush (v := nI 18) hx hb dX5_gain_84 (by decide) ?_
        refine lv_iload_n hx hb dX5_gain_86 rfl (lv_at hl 1 rfl) ?_
        refine cl_ip (cl_run (rest := [.int (nI 5), .int (nI (lgr (gnL (AL S) j ch o rc) j))]) F hW e_X5_80 (m_at18 hI l hN hV1_25 hkT_25 (by omega) (by omega) j (by rw [hrs_n, adI_n, adI_n]; exact hj)) ⟨Nat.le_of_ble_eq_true rfl, Nat.le_of_ble_eq_true rfl⟩ (by omega) g136_25 rfl rfl rfl hl (Nat.le_of_ble_eq_true rfl) dX5_gain_87 ⟨Nat.zero_le _, Nat.zero_le _⟩) hW (fun H locs hW => ?_)
        refine nv_top (y := ((nI (if lst (gnL (AL S) j ch o rc) j then 1 else 0)))) (b2_n _) ?_
        refine nv_mul F dX5_gain_90 ?_
        refine nv_top (y := ((nI (if lst (gnL (AL S) j ch o rc) j then 5 else 0)))) (congrArg nI (mul5 _)) ?_
        refine nv_add F dX5_gain_91 ?_
        refine lv_iconst (v := nI 2) hx hb dX5_gain_92 (by decide) ?_
        refine lv_iload_n hx hb dX5_gain_93 rfl (lv_at hl 3 rfl) ?_
        refine nv_mul F dX5_gain_94 ?_
        refine lv_isub hx hb dX5_gain_95 ?_
        exact rt_ie F hr hlk hW rfl ⟨(modX_tr hX_25 (fun _ _ => trivial)), (fun z hz => by rw [ho_25 z (by omega)]; rw [eμ24, va_up_ne _ _ (by omega)]; rw [eμ22, va_up_ne _ _ (by omega)]; rw [ho_1 z (by omega)])⟩ dX5_gain_96
      · skip
        refine lv_aload_n hx hb dX5_gain_52 rfl (lv_at hl 0 rfl) ?_
        refine lv_iconst (v := nI 0) hx hb dX5_gain_53 (by decide) ?_
        refine lv_iload_n hx hb dX5_gain_54 rfl (lv_at hl 2 rfl) ?_
        refine lv_iconst (v := nI 3) hx hb dX5_gain_55 (by decide) ?_
        refine cl_ip (cl_run (rest := [.int (nI (Ls (adI (AL S) j ch) o)), .int (nI (37 + o)), .ref (xa cx 138)]) F hW e_X5_119 (m_canBring hI l hN hV0_t22 hk (by omega) (by omega) o 3 (by omega) (by omega)) ⟨Nat.le_of_ble_eq_true rfl, Nat.le_of_ble_eq_true rfl⟩ (by omega) g136_t22 rfl rfl rfl hl (Nat.le_of_ble_eq_true rfl) dX5_gain_56 ⟨Nat.zero_le _, Nat.zero_le _⟩) hW (fun H locs hW => ?_)
        refine nv_beq (tgt := 66) F dX5_gain_59 (by decide) (fun c_26 => ?_) (fun c_26 => ?_)
        · skip
          refine lv_iconst (v := nI 0) hx hb dX5_gain_66 (by decide) ?_
          refine nv_add F dX5_gain_67 ?_
          refine nv_iastN F hW (by omega) g138_t22 (by omega) (by decide) dX5_gain_68 (fun H locs hW => ?_)
          obtain ⟨μ27, eμ27⟩ : ∃ zz9 : ME, zz9 = va_up μ22 138 (.inl (xT cx 0, 62, .inl (upd fn_t22 (37 + o) ((nI ((Ls (adI (AL S) j ch) o) + 0)))))) := ⟨_, rfl⟩
          have hW : St cx s μ27 H locs := by rw [eμ27]; exact hW
          have h136_27 := (congrFun eμ27 136).trans ((va_up_ne _ _ (by omega)).trans g136_t22)
          have h137_27 := (congrFun eμ27 137).trans ((va_up_ne _ _ (by omega)).trans g137_t22)
          have h138_27 : μ27 138 = .inl (xT cx 0, 62, .inl (upd fn_t22 (37 + o) ((nI ((Ls (adI (AL S) j ch) o) + 0))))) := by rw [eμ27, va_up_self]
          have h139_27 := (congrFun eμ27 139).trans ((va_up_ne _ _ (by omega)).trans g139_t22)
          have h140_27 := (congrFun eμ27 140).trans ((va_up_ne _ _ (by omega)).trans g140_t22)
          have h141_27 := (congrFun eμ27 141).trans ((va_up_ne _ _ (by omega)).trans g141_t22)
          have h142_27 := (congrFun eμ27 142).trans ((va_up_ne _ _ (by omega)).trans g142_t22)
          have h143_27 := (congrFun eμ27 143).trans ((va_up_ne _ _ (by omega)).trans g143_t22)
          have h144_27 := (congrFun eμ27 144).trans ((va_up_ne _ _ (by omega)).trans g144_t22)
          have h145_27 := (congrFun eμ27 145).trans ((va_up_ne _ _ (by omega)).trans g145_t22)
          have h146_27 := (congrFun eμ27 146).trans ((va_up_ne _ _ (by omega)).trans g146_t22)
          have h147_27 := (congrFun eμ27 147).trans ((va_up_ne _ _ (by omega)).trans g147_t22)
          have h148_27 := (congrFun eμ27 148).trans ((va_up_ne _ _ (by omega)).trans g148_t22)
          have hX_t27 : modX cx μ27 S (fun fn => lv fn 31 (adI (adI (AL S) j ch) o rc)) := modX_138 hX_t22 hn6 g138_t22 eμ27 (fun z hz => upd_ne (by omega)) (lv_adI (o := 31) hTr_t22 (by rw [adI_n]; exact hn6) (by rw [adI_n]; exact hoo) (by first | (rw [if_pos ⟨by omega, (canA_adI (fun q => hne q.symm)).trans (by assumption)⟩]; done) | (rw [if_neg (fun z => by have := z.1; omega)]; done) | (rw [if_neg (fun z => absurd (((canA_adI (fun q => hne q.symm)).symm.trans z.2).symm.trans (show canA (AL S) o 3 = false by assumption)) (by decide))]; done)))
          obtain ⟨rh_t27, nx_t27, f1_t27, fn_t27, frd_t27, ft_t27, fo_t27, fa_t27, frw_t27, fh_t27, fu_t27, fb_t27, fz_t27, fkp_t27, g136_t27, g137_t27, g138_t27, g139_t27, g140_t27, g141_t27, g142_t27, g143_t27, g144_t27, g145_t27, g146_t27, g147_t27, g148_t27, hg_t27, hv_t27, ht_t27, hnx_t27, hrw_t27, hse_t27, hkp_t27, hTr_t27⟩ := id hX_t27
          have hs_t27 : shp (adI (adI (AL S) j ch) o rc) (AL S) := shp_tr shp_adI shp_adI
          have hkT_t27 := lok_adI (lok_adI hk j ch) o rc
          have hn_t27 : Ln (adI (adI (AL S) j ch) o rc) = Ln (AL S) := hs_t27.1
          have hV0_t27 := modX_V0 hX_t27
          have hV1_t27 := modX_V1 hX_t27 hs_t27
          refine lv_aload_n hx hb dX5_gain_69 rfl (lv_at hl 0 rfl) ?_
          refine lv_iconst (v := nI 4) hx hb dX5_gain_70 (by decide) ?_
          refine cl_ie (cl_run (rest := []) F hW e_X5_137 (m_goOn hI l hN hX_t27 hA hMo hB hs_t27 hkT_t27 (by omega) 4 (by omega)) ⟨Nat.le_of_ble_eq_true rfl, Nat.le_of_ble_eq_true rfl⟩ (by omega) g136_t27 rfl rfl rfl hl (Nat.le_of_ble_eq_true rfl) dX5_gain_71 ⟨Nat.zero_le _, Nat.zero_le _⟩) hW (fun μ28 H locs q_28 hW => ?_)
          obtain ⟨hX_28, ho_28⟩ := q_28
          obtain ⟨rh_28, nx_28, f1_28, fn_28, frd_28, ft_28, fo_28, fa_28, frw_28, fh_28, fu_28, fb_28, fz_28, fkp_28, g136_28, g137_28, g138_28, g139_28, g140_28, g141_28, g142_28, g143_28, g144_28, g145_28, g146_28, g147_28, g148_28, hg_28, hv_28, ht_28, hnx_28, hrw_28, hse_28, hkp_28, hTr_28⟩ := id hX_28
          have hs_28 : shp (hrs 4 (adI (adI (AL S) j ch) o rc)) (AL S) := shp_tr (shp_hrs 4) hs_t27
          have hkT_28 := lok_hrs hkT_t27 4
          have hn_28 : Ln (hrs 4 (adI (adI (AL S) j ch) o rc)) = Ln (AL S) := hs_28.1
          have hV0_28 := modX_V0 hX_28
          have hV1_28 := modX_V1 hX_28 hs_28
          refine lv_pop hx hb dX5_gain_74 rfl ?_
          refine lv_aload_n hx hb dX5_gain_75 rfl (lv_at hl 0 rfl) ?_
          refine lv_iconst (v := nI 1) hx hb dX5_gain_76 (by decide) ?_
          refine lv_iload_n hx hb dX5_gain_77 rfl (lv_at hl 1 rfl) ?_
          refine cl_ip (cl_run (rest := []) F hW e_X5_99 (m_groundOf hI l hN hV1_28 hkT_28 (by omega) (by omega) j (by rw [hrs_n, adI_n, adI_n]; exact hj)) ⟨Nat.le_of_ble_eq_true rfl, Nat.le_of_ble_eq_true rfl⟩ (by omega) g136_28 rfl rfl rfl hl (Nat.le_of_ble_eq_true rfl) dX5_gain_78 ⟨Nat.zero_le _, Nat.zero_le _⟩) hW (fun H locs hW => ?_)
          refine nv_top (y := ((nI (lgr (gnL (AL S) j ch o rc) j)))) rfl ?_
          refine lv_iconst (v := nI 5) hx hb dX5_gain_81 (by decide) ?_
          refine lv_aload_n hx hb dX5_gain_82 rfl (lv_at hl 0 rfl) ?_
          refine lv_iconst (v := nI 1) hx hb dX5_gain_83 (by decide) ?_
          refine lv_bipush (v := nI 18) hx hb dX5_gain_84 (by decide) ?_
          refine lv_iload_n hx hb dX5_gain_86 rfl (lv_at hl 1 rfl) ?_
          refine cl_ip (cl_run (rest := [.int (nI 5), .int (nI (lgr (gnL (AL S) j ch o rc) j))]) F hW e_X5_80 (m_at18 hI l hN hV1_28 hkT_28 (by omega) (by omega) j (by rw [hrs_n, adI_n, adI_n]; exact hj)) ⟨Nat.le_of_ble_eq_true rfl, Nat.le_of_ble_eq_true rfl⟩ (by omega) g136_28 rfl rfl rfl hl (Nat.le_of_ble_eq_true rfl) dX5_gain_87 ⟨Nat.zero_le _, Nat.zero_le _⟩) hW (fun H locs hW => ?_)
          refine nv_top (y := ((nI (if lst (gnL (AL S) j ch o rc) j then 1 else 0)))) (b2_n _) ?_
          refine nv_mul F dX5_gain_90 ?_
          refine nv_top (y := ((nI (if lst (gnL (AL S) j ch o rc) j then 5 else 0)))) (congrArg nI (mul5 _)) ?_
          refine nv_add F dX5_gain_91 ?_
          refine lv_iconst (v := nI 2) hx hb dX5_gain_92 (by decide) ?_
          refine lv_iload_n hx hb dX5_gain_93 rfl (lv_at hl 3 rfl) ?_
          refine nv_mul F dX5_gain_94 ?_
          refine lv_isub hx hb dX5_gain_95 ?_
          exact rt_ie F hr hlk hW rfl ⟨(modX_tr hX_28 (fun _ _ => trivial)), (fun z hz => by rw [ho_28 z (by omega)]; rw [eμ27, va_up_ne _ _ (by omega)]; rw [eμ22, va_up_ne _ _ (by omega)]; rw [ho_1 z (by omega)])⟩ dX5_gain_96
        · skip
          refine lv_iconst (v := nI 3) hx hb dX5_gain_62 (by decide) ?_
          refine lv_goto (tgt := 67) hx hb dX5_gain_63 (by decide) ?_
          refine nv_add F dX5_gain_67 ?_
          refine nv_iastN F hW (by omega) g138_t22 (by omega) (by decide) dX5_gain_68 (fun H locs hW => ?_)
          obtain ⟨μ29, eμ29⟩ : ∃ zz9 : ME, zz9 = va_up μ22 138 (.inl (xT cx 0, 62, .inl (upd fn_t22 (37 + o) ((nI ((Ls (adI (AL S) j ch) o) + 3)))))) := ⟨_, rfl⟩
          have hW : St cx s μ29 H locs := by rw [eμ29]; exact hW
          have h136_29 := (congrFun eμ29 136).trans ((va_up_ne _ _ (by omega)).trans g136_t22)
          have h137_29 := (congrFun eμ29 137).trans ((va_up_ne _ _ (by omega)).trans g137_t22)
          have h138_29 : μ29 138 = .inl (xT cx 0, 62, .inl (upd fn_t22 (37 + o) ((nI ((Ls (adI (AL S) j ch) o) + 3))))) := by rw [eμ29, va_up_self]
          have h139_29 := (congrFun eμ29 139).trans ((va_up_ne _ _ (by omega)).trans g139_t22)
          have h140_29 := (congrFun eμ29 140).trans ((va_up_ne _ _ (by omega)).trans g140_t22)
          have h141_29 := (congrFun eμ29 141).trans ((va_up_ne _ _ (by omega)).trans g141_t22)
          have h142_29 := (congrFun eμ29 142).trans ((va_up_ne _ _ (by omega)).trans g142_t22)
          have h143_29 := (congrFun eμ29 143).trans ((va_up_ne _ _ (by omega)).trans g143_t22)
          have h144_29 := (congrFun eμ29 144).trans ((va_up_ne _ _ (by omega)).trans g144_t22)
          have h145_29 := (congrFun eμ29 145).trans ((va_up_ne _ _ (by omega)).trans g145_t22)
          have h146_29 := (congrFun eμ29 146).trans ((va_up_ne _ _ (by omega)).trans g146_t22)
          have h147_29 := (congrFun eμ29 147).trans ((va_up_ne _ _ (by omega)).trans g147_t22)
          have h148_29 := (congrFun eμ29 148).trans ((va_up_ne _ _ (by omega)).trans g148_t22)
          have hX_t29 : modX cx μ29 S (fun fn => lv fn 31 (adI (adI (AL S) j ch) o rc)) := modX_138 hX_t22 hn6 g138_t22 eμ29 (fun z hz => upd_ne (by omega)) (lv_adI (o := 31) hTr_t22 (by rw [adI_n]; exact hn6) (by rw [adI_n]; exact hoo) (by first | (rw [if_pos ⟨by omega, (canA_adI (fun q => hne q.symm)).trans (by assumption)⟩]; done) | (rw [if_neg (fun z => by have := z.1; omega)]; done) | (rw [if_neg (fun z => absurd (((canA_adI (fun q => hne q.symm)).symm.trans z.2).symm.trans (show canA (AL S) o 3 = false by assumption)) (by decide))]; done)))
          obtain ⟨rh_t29, nx_t29, f1_t29, fn_t29, frd_t29, ft_t29, fo_t29, fa_t29, frw_t29, fh_t29, fu_t29, fb_t29, fz_t29, fkp_t29, g136_t29, g137_t29, g138_t29, g139_t29, g140_t29, g141_t29, g142_t29, g143_t29, g144_t29, g145_t29, g146_t29, g147_t29, g148_t29, hg_t29, hv_t29, ht_t29, hnx_t29, hrw_t29, hse_t29, hkp_t29, hTr_t29⟩ := id hX_t29
          have hs_t29 : shp (adI (adI (AL S) j ch) o rc) (AL S) := shp_tr shp_adI shp_adI
          have hkT_t29 := lok_adI (lok_adI hk j ch) o rc
          have hn_t29 : Ln (adI (adI (AL S) j ch) o rc) = Ln (AL S) := hs_t29.1
          have hV0_t29 := modX_V0 hX_t29
          have hV1_t29 := modX_V1 hX_t29 hs_t29
          refine lv_aload_n hx hb dX5_gain_69 rfl (lv_at hl 0 rfl) ?_
          refine lv_iconst (v := nI 4) hx hb dX5_gain_70 (by decide) ?_
          refine cl_ie (cl_run (rest := []) F hW e_X5_137 (m_goOn hI l hN hX_t29 hA hMo hB hs_t29 hkT_t29 (by omega) 4 (by omega)) ⟨Nat.le_of_ble_eq_true rfl, Nat.le_of_ble_eq_true rfl⟩ (by omega) g136_t29 rfl rfl rfl hl (Nat.le_of_ble_eq_true rfl) dX5_gain_71 ⟨Nat.zero_le _, Nat.zero_le _⟩) hW (fun μ30 H locs q_30 hW => ?_)
          obtain ⟨hX_30, ho_30⟩ := q_30
          obtain ⟨rh_30, nx_30, f1_30, fn_30, frd_30, ft_30, fo_30, fa_30, frw_30, fh_30, fu_30, fb_30, fz_30, fkp_30, g136_30, g137_30, g138_30, g139_30, g140_30, g141_30, g142_30, g143_30, g144_30, g145_30, g146_30, g147_30, g148_30, hg_30, hv_30, ht_30, hnx_30, hrw_30, hse_30, hkp_30, hTr_30⟩ := id hX_30
          have hs_30 : shp (hrs 4 (adI (adI (AL S) j ch) o rc)) (AL S) := shp_tr (shp_hrs 4) hs_t29
          have hkT_30 := lok_hrs hkT_t29 4
          have hn_30 : Ln (hrs 4 (adI (adI (AL S) j ch) o rc)) = Ln (AL S) := hs_30.1
          have hV0_30 := modX_V0 hX_30
          have hV1_30 := modX_V1 hX_30 hs_30
          refine lv_pop hx hb dX5_gain_74 rfl ?_
          refine lv_aload_n hx hb dX5_gain_75 rfl (lv_at hl 0 rfl) ?_
          refine lv_iconst (v := nI 1) hx hb dX5_gain_76 (by decide) ?_
          refine lv_iload_n hx hb dX5_gain_77 rfl (lv_at hl 1 rfl) ?_
          refine cl_ip (cl_run (rest := []) F hW e_X5_99 (m_groundOf hI l hN hV1_30 hkT_30 (by omega) (by omega) j (by rw [hrs_n, adI_n, adI_n]; exact hj)) ⟨Nat.le_of_ble_eq_true rfl, Nat.le_of_ble_eq_true rfl⟩ (by omega) g136_30 rfl rfl rfl hl (Nat.le_of_ble_eq_true rfl) dX5_gain_78 ⟨Nat.zero_le _, Nat.zero_le _⟩) hW (fun H locs hW => ?_)
          refine nv_top (y := ((nI (lgr (gnL (AL S) j ch o rc) j)))) rfl ?_
          refine lv_iconst (v := nI 5) hx hb dX5_gain_81 (by decide) ?_
          refine lv_aload_n hx hb dX5_gain_82 rfl (lv_at hl 0 rfl) ?_
          refine lv_iconst (v := nI 1) hx hb dX5_gain_83 (by decide) ?_
          refine lv_bipush (v := nI 18) hx hb dX5_gain_84 (by decide) ?_
          refine lv_iload_n hx hb dX5_gain_86 rfl (lv_at hl 1 rfl) ?_
          refine cl_ip (cl_run (rest := [.int (nI 5), .int (nI (lgr (gnL (AL S) j ch o rc) j))]) F hW e_X5_80 (m_at18 hI l hN hV1_30 hkT_30 (by omega) (by omega) j (by rw [hrs_n, adI_n, adI_n]; exact hj)) ⟨Nat.le_of_ble_eq_true rfl, Nat.le_of_ble_eq_true rfl⟩ (by omega) g136_30 rfl rfl rfl hl (Nat.le_of_ble_eq_true rfl) dX5_gain_87 ⟨Nat.zero_le _, Nat.zero_le _⟩) hW (fun H locs hW => ?_)
          refine nv_top (y := ((nI (if lst (gnL (AL S) j ch o rc) j then 1 else 0)))) (b2_n _) ?_
          refine nv_mul F dX5_gain_90 ?_
          refine nv_top (y := ((nI (if lst (gnL (AL S) j ch o rc) j then 5 else 0)))) (congrArg nI (mul5 _)) ?_
          refine nv_add F dX5_gain_91 ?_
          refine lv_iconst (v := nI 2) hx hb dX5_gain_92 (by decide) ?_
          refine lv_iload_n hx hb dX5_gain_93 rfl (lv_at hl 3 rfl) ?_
          refine nv_mul F dX5_gain_94 ?_
          refine lv_isub hx hb dX5_gain_95 ?_
          exact rt_ie F hr hlk hW rfl ⟨(modX_tr hX_30 (fun _ _ => trivial)), (fun z hz => by rw [ho_30 z (by omega)]; rw [eμ29, va_up_ne _ _ (by omega)]; rw [eμ22, va_up_ne _ _ (by omega)]; rw [ho_1 z (by omega)])⟩ dX5_gain_96

set_option maxHeartbeats 4000000 in
set_option maxRecDepth 100000 in
theorem m_isRest {cx : CX} (hI : xI cx) (l : Launch) {μ : ME} {S : AS} {B : Nat} {Tr : (Nat → Int32) → Prop} (hN : 149 ≤ xN cx) (hX : modX cx μ S Tr) (hA : aok S B) (hMo : mok S) (hB : B < 800000) (j o a b : Nat) (hj : j < Ln (AL S)) (hoo : o < Ln (AL S)) (hne : ¬ j = o) (ha : a ≤ 1) (hb9 : b ≤ 1) : MT cx l yX5_isRest cX5_isRest 5 (some .boolean) 6 142 [.ref (xa cx 136), .int (nI j), .int (nI o), .int (nI a), .int (nI b)] μ (Ei cx (b2 (prB (AL S) j a o b && prB (AL S) o b j a)) (fun μ1 => modX cx μ1 S (fun _ => True) ∧ off 136 13 μ μ1)) := by
  refine mt_of hI (by decide) (Nat.le_of_ble_eq_true rfl) ?_
  intro p e s m below meth c ls F hr hlk hW hl
  have hx := F.1.1
  have hb := F.1.2.1
  have hts := F.1.2.2.2.2
  obtain ⟨rh, nx, f1, fn, frd, ft, fo, fa, frw, fh, fu, fb, fz, fkp, g136, g137, g138, g139, g140, g141, g142, g143, g144, g145, g146, g147, g148, hg, hv, ht, hnx, hrw, hse, hkp, hTr⟩ := id hX
  have hk := hA.2.1
  have hn6 := hk.1
  have hk4 := hk.2.2.2.1
  have hU := lok_U hk
  have hV0 := modX_V0 hX
  have hl : lv_has ls 5 [(0, .ref (xa cx 136)), (1, .int (nI j)), (2, .int (nI o)), (3, .int (nI a)), (4, .int (nI b))] := hl
  refine lv_aload_n hx hb dX5_isRest_0 rfl (lv_at hl 0 rfl) ?_
  refine lv_iload_n hx hb dX5_isRest_1 rfl (lv_at hl 1 rfl) ?_
  refine lv_iload_n hx hb dX5_isRest_2 rfl (lv_at hl 2 rfl) ?_
  refine lv_iconst (v := nI 1) hx hb dX5_isRest_3 (by decide) ?_
  refine lv_iload_n hx hb dX5_isRest_4 rfl (lv_at hl 3 rfl) ?_
  refine nv_sub F (by omega) dX5_isRest_5 ?_
  refine lv_iload hx hb dX5_isRest_6 (lv_at hl 4 rfl) ?_
  refine cl_ie (cl_run (rest := []) F hW e_X5_190 (m_gain hI l hN hX hA hMo hB j o (1 - a) b (by omega) (by omega) (by omega) (by omega) (by omega)) ⟨Nat.le_of_ble_eq_true rfl, Nat.le_of_ble_eq_true rfl⟩ (by omega) g136 rfl rfl rfl hl (Nat.le_of_ble_eq_true rfl) dX5_isRest_8 ⟨Nat.zero_le _, Nat.zero_le _⟩) hW (fun μ1 H locs q_1 hW => ?_)
  obtain ⟨hX_1, ho_1⟩ := q_1
  obtain ⟨rh_1, nx_1, f1_1, fn_1, frd_1, ft_1, fo_1, fa_1, frw_1, fh_1, fu_1, fb_1, fz_1, fkp_1, g136_1, g137_1, g138_1, g139_1, g140_1, g141_1, g142_1, g143_1, g144_1, g145_1, g146_1, g147_1, g148_1, hg_1, hv_1, ht_1, hnx_1, hrw_1, hse_1, hkp_1, hTr_1⟩ := id hX_1
  have hV0_1 := modX_V0 hX_1
  refine lv_aload_n hx hb dX5_isRest_11 rfl (lv_at hl 0 rfl) ?_
  refine lv_iload_n hx hb dX5_isRest_12 rfl (lv_at hl 1 rfl) ?_
  refine lv_iload_n hx hb dX5_isRest_13 rfl (lv_at hl 2 rfl) ?_
  refine lv_iload_n hx hb dX5_isRest_14 rfl (lv_at hl 3 rfl) ?_
  refine lv_iload hx hb dX5_isRest_15 (lv_at hl 4 rfl) ?_
  refine cl_ie (cl_run (rest := [.int (gnI (AL S) j (1 - a) o b)]) F hW e_X5_190 (m_gain hI l hN hX_1 hA hMo hB j o a b (by omega) (by omega) (by omega) (by omega) (by omega)) ⟨Nat.le_of_ble_eq_true rfl, Nat.le_of_ble_eq_true rfl⟩ (by omega) g136_1 rfl rfl rfl hl (Nat.le_of_ble_eq_true rfl) dX5_isRest_17 ⟨Nat.zero_le _, Nat.zero_le _⟩) hW (fun μ2 H locs q_2 hW => ?_)
  obtain ⟨hX_2, ho_2⟩ := q_2
  obtain ⟨rh_2, nx_2, f1_2, fn_2, frd_2, ft_2, fo_2, fa_2, frw_2, fh_2, fu_2, fb_2, fz_2, fkp_2, g136_2, g137_2, g138_2, g139_2, g140_2, g141_2, g142_2, g143_2, g144_2, g145_2, g146_2, g147_2, g148_2, hg_2, hv_2, ht_2, hnx_2, hrw_2, hse_2, hkp_2, hTr_2⟩ := id hX_2
  have hV0_2 := modX_V0 hX_2
  refine lv_icmp_gt (tgt := 50) hx hb dX5_isRest_20 (by decide) (fun c_3 => ?_) (fun c_3 => ?_)
  · skip
    refine lv_iconst (v := nI 0) hx hb dX5_isRest_50 (by decide) ?_
    exact rt_ze F hr hlk hW (by first | (rw [show prB (AL S) j a o b = false from decide_eq_false (fun q => q (by assumption))]; rfl) | (rw [show prB (AL S) o b j a = false from decide_eq_false (fun q => q (by assumption)), Bool.and_false]; rfl)) ⟨(modX_tr hX_2 (fun _ _ => trivial)), (fun z hz => by rw [ho_2 z (by omega)]; rw [ho_1 z (by omega)])⟩ dX5_isRest_51
  · skip
    refine lv_aload_n hx hb dX5_isRest_23 rfl (lv_at hl 0 rfl) ?_
    refine lv_iload_n hx hb dX5_isRest_24 rfl (lv_at hl 2 rfl) ?_
    refine lv_iload_n hx hb dX5_isRest_25 rfl (lv_at hl 1 rfl) ?_
    refine lv_iconst (v := nI 1) hx hb dX5_isRest_26 (by decide) ?_
    refine lv_iload hx hb dX5_isRest_27 (lv_at hl 4 rfl) ?_
    refine nv_sub F (by omega) dX5_isRest_29 ?_
    refine lv_iload_n hx hb dX5_isRest_30 rfl (lv_at hl 3 rfl) ?_
    refine cl_ie (cl_run (rest := []) F hW e_X5_190 (m_gain hI l hN hX_2 hA hMo hB o j (1 - b) a (by omega) (by omega) (by omega) (by omega) (by omega)) ⟨Nat.le_of_ble_eq_true rfl, Nat.le_of_ble_eq_true rfl⟩ (by omega) g136_2 rfl rfl rfl hl (Nat.le_of_ble_eq_true rfl) dX5_isRest_31 ⟨Nat.zero_le _, Nat.zero_le _⟩) hW (fun μ4 H locs q_4 hW => ?_)
    obtain ⟨hX_4, ho_4⟩ := q_4
    obtain ⟨rh_4, nx_4, f1_4, fn_4, frd_4, ft_4, fo_4, fa_4, frw_4, fh_4, fu_4, fb_4, fz_4, fkp_4, g136_4, g137_4, g138_4, g139_4, g140_4, g141_4, g142_4, g143_4, g144_4, g145_4, g146_4, g147_4, g148_4, hg_4, hv_4, ht_4, hnx_4, hrw_4, hse_4, hkp_4, hTr_4⟩ := id hX_4
    have hV0_4 := modX_V0 hX_4
    refine lv_aload_n hx hb dX5_isRest_34 rfl (lv_at hl 0 rfl) ?_
    refine lv_iload_n hx hb dX5_isRest_35 rfl (lv_at hl 2 rfl) ?_
    refine lv_iload_n hx hb dX5_isRest_36 rfl (lv_at hl 1 rfl) ?_
    refine lv_iload hx hb dX5_isRest_37 (lv_at hl 4 rfl) ?_
    refine lv_iload_n hx hb dX5_isRest_39 rfl (lv_at hl 3 rfl) ?_
    refine cl_ie (cl_run (rest := [.int (gnI (AL S) o (1 - b) j a)]) F hW e_X5_190 (m_gain hI l hN hX_4 hA hMo hB o j b a (by omega) (by omega) (by omega) (by omega) (by omega)) ⟨Nat.le_of_ble_eq_true rfl, Nat.le_of_ble_eq_true rfl⟩ (by omega) g136_4 rfl rfl rfl hl (Nat.le_of_ble_eq_true rfl) dX5_isRest_40 ⟨Nat.zero_le _, Nat.zero_le _⟩) hW (fun μ5 H locs q_5 hW => ?_)
    obtain ⟨hX_5, ho_5⟩ := q_5
    obtain ⟨rh_5, nx_5, f1_5, fn_5, frd_5, ft_5, fo_5, fa_5, frw_5, fh_5, fu_5, fb_5, fz_5, fkp_5, g136_5, g137_5, g138_5, g139_5, g140_5, g141_5, g142_5, g143_5, g144_5, g145_5, g146_5, g147_5, g148_5, hg_5, hv_5, ht_5, hnx_5, hrw_5, hse_5, hkp_5, hTr_5⟩ := id hX_5
    have hV0_5 := modX_V0 hX_5
    refine lv_icmp_gt (tgt := 50) hx hb dX5_isRest_43 (by decide) (fun c_6 => ?_) (fun c_6 => ?_)
    · skip
      refine lv_iconst (v := nI 0) hx hb dX5_isRest_50 (by decide) ?_
      exact rt_ze F hr hlk hW (by first | (rw [show prB (AL S) j a o b = false from decide_eq_false (fun q => q (by assumption))]; rfl) | (rw [show prB (AL S) o b j a = false from decide_eq_false (fun q => q (by assumption)), Bool.and_false]; rfl)) ⟨(modX_tr hX_5 (fun _ _ => trivial)), (fun z hz => by rw [ho_5 z (by omega)]; rw [ho_4 z (by omega)]; rw [ho_2 z (by omega)]; rw [ho_1 z (by omega)])⟩ dX5_isRest_51
    · skip
      refine lv_iconst (v := nI 1) hx hb dX5_isRest_46 (by decide) ?_
      refine lv_goto (tgt := 51) hx hb dX5_isRest_47 (by decide) ?_
      exact rt_ze F hr hlk hW (by unfold prB; rw [decide_eq_true (by assumption), decide_eq_true (by assumption)]; rfl) ⟨(modX_tr hX_5 (fun _ _ => trivial)), (fun z hz => by rw [ho_5 z (by omega)]; rw [ho_4 z (by omega)]; rw [ho_2 z (by omega)]; rw [ho_1 z (by omega)])⟩ dX5_isRest_51

def rsU (L : LN) (j o : Nat) : Nat → Nat × Int32
  | 0 => (0, -9)
  | k + 1 => rsP L j o (k / 2) (k % 2) (rsU L j o k)
theorem rsU_z (L : LN) (j o k : Nat) (hk : k < 1000) : (rsU L j o k).1 ≤ k ∧ ((rsU L j o k).1 = 0 ↔ (rsU L j o k).2 = -9) := by
  induction k with
  | zero => exact ⟨Nat.le_refl _, ⟨fun _ => rfl, fun _ => rfl⟩⟩
  | succ k ih =>
    have ih := ih (by omega)
    show (rsP L j o (k / 2) (k % 2) (rsU L j o k)).1 ≤ k + 1 ∧ ((rsP L j o (k / 2) (k % 2) (rsU L j o k)).1 = 0 ↔ (rsP L j o (k / 2) (k % 2) (rsU L j o k)).2 = -9)
    unfold rsP
    split
    · refine ⟨by show (rsU L j o k).1 + 1 ≤ k + 1; omega, ?_⟩
      show (rsU L j o k).1 + 1 = 0 ↔ (if (rsU L j o k).2 = -9 then nI (10 * (k / 2) + k % 2) else (rsU L j o k).2) = -9
      constructor
      · intro q; omega
      · intro q
        split at q
        · exact absurd q (nI_ne (by omega) (by decide))
        · contradiction
    · exact ⟨by omega, ih.2⟩

set_option maxHeartbeats 4000000 in
set_option maxRecDepth 100000 in
theorem x_rests {cx : CX} (hI : xI cx) (l : Launch) {μ : ME} {S : AS} {B : Nat} {Tr : (Nat → Int32) → Prop} (hN : 149 ≤ xN cx) (hX : modX cx μ S Tr) (hA : aok S B) (hMo : mok S) (hB : B < 800000) (h k w : Int32) : MT cx l yX5_rests cX5_rests 7 (some .int) 7 166 [.ref (xa cx 136), .int h, .int k, .int w] μ (Ei cx (r_rests S h k w) (fun μ1 => modX cx μ1 S (fun _ => True) ∧ off 136 13 μ μ1)) := by
  refine mt_of hI (by decide) (Nat.le_of_ble_eq_true rfl) ?_
  intro p e s m below meth c ls F hr hlk hW hl
  have hx := F.1.1
  have hb := F.1.2.1
  have hts := F.1.2.2.2.2
  obtain ⟨rh, nx, f1, fn, frd, ft, fo, fa, frw, fh, fu, fb, fz, fkp, g136, g137, g138, g139, g140, g141, g142, g143, g144, g145, g146, g147, g148, hg, hv, ht, hnx, hrw, hse, hkp, hTr⟩ := id hX
  have hk := hA.2.1
  have hn6 := hk.1
  have hk4 := hk.2.2.2.1
  have hU := lok_U hk
  have hV0 := modX_V0 hX
  have hl : lv_has ls 7 [(0, .ref (xa cx 136)), (1, .int h), (2, .int k), (3, .int w)] := hl
  refine lv_aload_n hx hb dX5_rests_0 rfl (lv_at hl 0 rfl) ?_
  refine lv_iload_n hx hb dX5_rests_1 rfl (lv_at hl 1 rfl) ?_
  refine cl_ip (cl_run (rest := []) F hW e_X5_91 (m_isHouse hI l hN hV0 hk (by omega) (by omega) h) ⟨Nat.le_of_ble_eq_true rfl, Nat.le_of_ble_eq_true rfl⟩ (by omega) g136 rfl rfl rfl hl (Nat.le_of_ble_eq_true rfl) dX5_rests_2 ⟨Nat.zero_le _, Nat.zero_le _⟩) hW (fun H locs hW => ?_)
  refine nv_beq (tgt := 16) F dX5_rests_5 (by decide) (fun c_1 => ?_) (fun c_1 => ?_)
  · skip
    refine lv_iconst (v := (-1)) hx hb dX5_rests_16 (by decide) ?_
    exact rt_ie F hr hlk hW (by unfold r_rests; first | (rw [‹inR h (Ln (AL S)) = false›]; rfl) | (rw [‹inR k (Ln (AL S)) = false›, Bool.and_false]; rfl)) ⟨(modX_tr hX (fun _ _ => trivial)), off_rf⟩ dX5_rests_17
  · skip
    obtain ⟨j, hj, rfl⟩ := inR_of c_1 (by omega)
    refine lv_aload_n hx hb dX5_rests_8 rfl (lv_at hl 0 rfl) ?_
    refine lv_iload_n hx hb dX5_rests_9 rfl (lv_at hl 2 rfl) ?_
    refine cl_ip (cl_run (rest := []) F hW e_X5_91 (m_isHouse hI l hN hV0 hk (by omega) (by omega) k) ⟨Nat.le_of_ble_eq_true rfl, Nat.le_of_ble_eq_true rfl⟩ (by omega) g136 rfl rfl rfl hl (Nat.le_of_ble_eq_true rfl) dX5_rests_10 ⟨Nat.zero_le _, Nat.zero_le _⟩) hW (fun H locs hW => ?_)
    refine nv_bne (tgt := 18) F dX5_rests_13 (by decide) (fun c_2 => ?_) (fun c_2 => ?_)
    · skip
      obtain ⟨o, hoo, rfl⟩ := inR_of c_2 (by omega)
      refine lv_iload_n hx hb dX5_rests_18 rfl (lv_at hl 1 rfl) ?_
      refine lv_iload_n hx hb dX5_rests_19 rfl (lv_at hl 2 rfl) ?_
      refine nv_ceq (tgt := 33) F (by omega) (by omega) dX5_rests_20 (by decide) (fun c_3 => ?_) (fun c_3 => ?_)
      · skip
        refine lv_bipush (v := (-2)) hx hb dX5_rests_33 (by decide) ?_
        exact rt_ie F hr hlk hW (by unfold r_rests; rw [inR_j hj (by omega), inR_j hoo (by omega)]; show _ = (if (decide (¬ nI j = nI o) && halI w) = true then _ else _); rw [if_neg (by first | (rw [‹halI w = false›, Bool.and_false]; decide) | (rw [decide_eq_false (fun q => q (congrArg nI (by assumption)))]; simp))]) ⟨(modX_tr hX (fun _ _ => trivial)), off_rf⟩ dX5_rests_35
      · skip
        have hne : ¬ j = o := by omega
        refine lv_iload_n hx hb dX5_rests_23 rfl (lv_at hl 3 rfl) ?_
        refine lv_i2l hx hb dX5_rests_24 rfl ?_
        refine lv_lconst (v := lN 0) hx hb dX5_rests_25 (by decide) ?_
        refine lv_lconst (v := lN 1) hx hb dX5_rests_26 (by decide) ?_
        refine cl_ip (cl_runS (rest := []) F hW e_X5_49 (m_in hI l ((w.toInt64)) ((lN 0)) ((lN 1))) ⟨Nat.le_of_ble_eq_true rfl, Nat.le_of_ble_eq_true rfl⟩ rfl rfl hl (Nat.le_of_ble_eq_true rfl) dX5_rests_27 ⟨Nat.zero_le _, Nat.zero_le _⟩) hW (fun H locs hW => ?_)
        refine nv_top (y := ((b2 (halI w)))) (congrArg b2 (inL_half _)) ?_
        refine nv_bne (tgt := 36) F dX5_rests_30 (by decide) (fun c_4 => ?_) (fun c_4 => ?_)
        · skip
          have hwh := c_4
          refine lv_iconst (v := nI 0) hx hb dX5_rests_36 (by decide) ?_
          refine lv_istore (lv' := [(4, .int (nI 0)), (0, .ref (xa cx 136)), (1, .int (nI j)), (2, .int (nI o)), (3, .int w)]) hx hb dX5_rests_37 hl (by decide) rfl (fun ls hl => ?_)
          refine lv_bipush (v := (-9)) hx hb dX5_rests_39 (by decide) ?_
          refine lv_istore (lv' := [(5, .int ((-9))), (4, .int (nI 0)), (0, .ref (xa cx 136)), (1, .int (nI j)), (2, .int (nI o)), (3, .int w)]) hx hb dX5_rests_41 hl (by decide) rfl (fun ls hl => ?_)
          refine lv_iconst (v := nI 0) hx hb dX5_rests_43 (by decide) ?_
          refine lv_istore (lv' := [(6, .int (nI 0)), (5, .int ((-9))), (4, .int (nI 0)), (0, .ref (xa cx 136)), (1, .int (nI j)), (2, .int (nI o)), (3, .int w)]) hx hb dX5_rests_44 hl (by decide) rfl (fun ls hl => ?_)
          have LOOP : ∀ (d i : Nat)  (μLOOP : ME) (H : Heap) (locs : List Loc) (ls : Array Slot), i + d = 4 → (modX cx μLOOP S (fun _ => True)) → (off 136 13 μ μLOOP) → St cx s μLOOP H locs → lv_has ls 7 [(0, .ref (xa cx 136)), (1, .int (nI j)), (2, .int (nI o)), (3, .int w), (4, .int (nI ((rsU (AL S) j o i).1))), (5, .int ((rsU (AL S) j o i).2)), (6, .int (nI i))] → W p l e { frames := 7, cells := 0, slots := 0, locals := 166 } s m [.ref (xa cx 136), .int (nI j), .int (nI o), .int w].toArray below meth c H locs 0 0 (MQ below (Ei cx (r_rests S (nI j) (nI o) w) (fun μ1 => modX cx μ1 S (fun _ => True) ∧ off 136 13 μ μ1)) [.ref (xa cx 136), .int (nI j), .int (nI o), .int w].toArray s 0 0 (xA cx)) (F0 m 46 ls []) := by
            intro d
            induction d with
            | zero =>
              intro i  μLOOP H locs ls hid hXiLOOP hoiLOOP hW hl
              obtain ⟨rh_i, nx_i, f1_i, fn_i, frd_i, ft_i, fo_i, fa_i, frw_i, fh_i, fu_i, fb_i, fz_i, fkp_i, g136_i, g137_i, g138_i, g139_i, g140_i, g141_i, g142_i, g143_i, g144_i, g145_i, g146_i, g147_i, g148_i, hg_i, hv_i, ht_i, hnx_i, hrw_i, hse_i, hkp_i, hTr_i⟩ := id hXiLOOP
              have hV0_i := modX_V0 hXiLOOP
              refine lv_iload hx hb dX5_rests_46 (lv_at hl 6 rfl) ?_
              refine lv_iconst (v := nI 4) hx hb dX5_rests_48 (by decide) ?_
              refine nv_cge (tgt := 102) F (by omega) (by omega) dX5_rests_49 (by decide) (fun c_5 => ?_) (fun c_5 => ?_)
              · skip
                refine lv_iload_n hx hb dX5_rests_102 rfl (lv_at hl 3 rfl) ?_
                refine lv_if_ne (tgt := 111) hx hb dX5_rests_103 (by decide) (fun c_6 => ?_) (fun c_6 => ?_)
                · skip
                  refine lv_iload hx hb dX5_rests_111 (lv_at hl 5 rfl) ?_
                  exact rt_ie F hr hlk hW (by have hn9 : ¬ nI j = nI o := (fun q => absurd ((nI_eq (show j < 2147483648 by omega) (show o < 2147483648 by omega)).mp q) hne); unfold r_rests; rw [inR_j hj (by omega), inR_j hoo (by omega), decide_eq_true hn9, hwh, nI_clamp (by omega), nI_clamp (by omega)]; show _ = (if w = nI 0 then nI (rsU (AL S) j o 4).1 else (rsU (AL S) j o 4).2); rw [show i = 4 by omega]; first | (rw [if_pos (by assumption)]; done) | (rw [if_neg (by assumption)]; done)) ⟨(modX_tr hXiLOOP (fun _ _ => trivial)), (fun z hz => by rw [hoiLOOP z (by omega)])⟩ dX5_rests_113
                · skip
                  refine lv_iload hx hb dX5_rests_106 (lv_at hl 4 rfl) ?_
                  refine lv_goto (tgt := 113) hx hb dX5_rests_108 (by decide) ?_
                  exact rt_ie F hr hlk hW (by have hn9 : ¬ nI j = nI o := (fun q => absurd ((nI_eq (show j < 2147483648 by omega) (show o < 2147483648 by omega)).mp q) hne); unfold r_rests; rw [inR_j hj (by omega), inR_j hoo (by omega), decide_eq_true hn9, hwh, nI_clamp (by omega), nI_clamp (by omega)]; show _ = (if w = nI 0 then nI (rsU (AL S) j o 4).1 else (rsU (AL S) j o 4).2); rw [show i = 4 by omega]; first | (rw [if_pos (by assumption)]; done) | (rw [if_neg (by assumption)]; done)) ⟨(modX_tr hXiLOOP (fun _ _ => trivial)), (fun z hz => by rw [hoiLOOP z (by omega)])⟩ dX5_rests_113
              · skip
                exact absurd c_5 (by omega)
            | succ d ih =>
              intro i  μLOOP H locs ls hid hXiLOOP hoiLOOP hW hl
              obtain ⟨rh_i, nx_i, f1_i, fn_i, frd_i, ft_i, fo_i, fa_i, frw_i, fh_i, fu_i, fb_i, fz_i, fkp_i, g136_i, g137_i, g138_i, g139_i, g140_i, g141_i, g142_i, g143_i, g144_i, g145_i, g146_i, g147_i, g148_i, hg_i, hv_i, ht_i, hnx_i, hrw_i, hse_i, hkp_i, hTr_i⟩ := id hXiLOOP
              have hV0_i := modX_V0 hXiLOOP
              refine lv_iload hx hb dX5_rests_46 (lv_at hl 6 rfl) ?_
              refine lv_iconst (v := nI 4) hx hb dX5_rests_48 (by decide) ?_
              refine nv_cge (tgt := 102) F (by omega) (by omega) dX5_rests_49 (by decide) (fun c_7 => ?_) (fun c_7 => ?_)
              · skip
                exact absurd c_7 (by omega)
              · skip
                refine lv_aload_n hx hb dX5_rests_52 rfl (lv_at hl 0 rfl) ?_
                refine lv_iload_n hx hb dX5_rests_53 rfl (lv_at hl 1 rfl) ?_
                refine lv_iload_n hx hb dX5_rests_54 rfl (lv_at hl 2 rfl) ?_
                refine lv_iload hx hb dX5_rests_55 (lv_at hl 6 rfl) ?_
                refine lv_iconst (v := nI 2) hx hb dX5_rests_57 (by decide) ?_
                refine nv_div F (by omega) (by omega) (by omega) dX5_rests_58 ?_
                refine lv_iload hx hb dX5_rests_59 (lv_at hl 6 rfl) ?_
                refine lv_iconst (v := nI 2) hx hb dX5_rests_61 (by decide) ?_
                refine nv_rem F (by omega) (by omega) (by omega) dX5_rests_62 ?_
                refine cl_ie (cl_run (rest := []) F hW e_X5_194 (m_isRest hI l hN hXiLOOP hA hMo hB j o (i / 2) (i % 2) hj hoo hne (by omega) (by omega)) ⟨Nat.le_of_ble_eq_true rfl, Nat.le_of_ble_eq_true rfl⟩ (by omega) g136_i rfl rfl rfl hl (Nat.le_of_ble_eq_true rfl) dX5_rests_63 ⟨Nat.zero_le _, Nat.zero_le _⟩) hW (fun μ8 H locs q_8 hW => ?_)
                obtain ⟨hX_8, ho_8⟩ := q_8
                obtain ⟨rh_8, nx_8, f1_8, fn_8, frd_8, ft_8, fo_8, fa_8, frw_8, fh_8, fu_8, fb_8, fz_8, fkp_8, g136_8, g137_8, g138_8, g139_8, g140_8, g141_8, g142_8, g143_8, g144_8, g145_8, g146_8, g147_8, g148_8, hg_8, hv_8, ht_8, hnx_8, hrw_8, hse_8, hkp_8, hTr_8⟩ := id hX_8
                have hV0_8 := modX_V0 hX_8
                refine nv_beq (tgt := 96) F dX5_rests_66 (by decide) (fun c_9 => ?_) (fun c_9 => ?_)
                · skip
                  refine lv_iinc (v := ((nI (i + 1)))) (lv' := [(6, .int (nI (i + 1))), (0, .ref (xa cx 136)), (1, .int (nI j)), (2, .int (nI o)), (3, .int w), (4, .int (nI ((rsU (AL S) j o i).1))), (5, .int ((rsU (AL S) j o i).2))]) hx hb dX5_rests_96 hl (k := 6) rfl (nI_add _ _) (by decide) rfl (fun ls hl => ?_)
                  refine lv_goto (tgt := 46) hx hb dX5_rests_99 (by decide) ?_
                  have hzz := (rsU_z (AL S) j o i (by omega)).2
                  have e9 : rsU (AL S) j o (i + 1) = rsU (AL S) j o i := by
                    show (if (prB (AL S) j (i / 2) o (i % 2) && prB (AL S) o (i % 2) j (i / 2)) = true then _ else _) = _
                    rw [if_neg (by rw [show (prB (AL S) j (i / 2) o (i % 2) && prB (AL S) o (i % 2) j (i / 2)) = false by assumption]; decide)]
                  exact ih (i + 1) μ8 _ _ _ (by omega) (modX_tr hX_8 (fun _ _ => trivial)) (fun z hz => by rw [ho_8 z (by omega)]; rw [hoiLOOP z (by omega)]) hW (by rw [e9]; exact lv_sub hl [1, 2, 3, 4, 5, 6, 0] rfl)
                · skip
                  refine lv_iload hx hb dX5_rests_69 (lv_at hl 4 rfl) ?_
                  refine nv_zne (tgt := 89) F (by have := rsU_z (AL S) j o i (by omega); omega) dX5_rests_71 (by decide) (fun c_10 => ?_) (fun c_10 => ?_)
                  · skip
                    refine lv_iload hx hb dX5_rests_89 (lv_at hl 5 rfl) ?_
                    refine lv_istore (lv' := [(5, .int ((rsU (AL S) j o i).2)), (0, .ref (xa cx 136)), (1, .int (nI j)), (2, .int (nI o)), (3, .int w), (4, .int (nI ((rsU (AL S) j o i).1))), (6, .int (nI i))]) hx hb dX5_rests_91 hl (by decide) rfl (fun ls hl => ?_)
                    refine lv_iinc (v := ((nI ((rsU (AL S) j o i).1 + 1)))) (lv' := [(4, .int (nI ((rsU (AL S) j o i).1 + 1))), (5, .int ((rsU (AL S) j o i).2)), (0, .ref (xa cx 136)), (1, .int (nI j)), (2, .int (nI o)), (3, .int w), (6, .int (nI i))]) hx hb dX5_rests_93 hl (k := 5) rfl (nI_add _ _) (by decide) rfl (fun ls hl => ?_)
                    refine lv_iinc (v := ((nI (i + 1)))) (lv' := [(6, .int (nI (i + 1))), (4, .int (nI ((rsU (AL S) j o i).1 + 1))), (5, .int ((rsU (AL S) j o i).2)), (0, .ref (xa cx 136)), (1, .int (nI j)), (2, .int (nI o)), (3, .int w)]) hx hb dX5_rests_96 hl (k := 6) rfl (nI_add _ _) (by decide) rfl (fun ls hl => ?_)
                    refine lv_goto (tgt := 46) hx hb dX5_rests_99 (by decide) ?_
                    have hzz := (rsU_z (AL S) j o i (by omega)).2
                    have e9 : rsU (AL S) j o (i + 1) = ((rsU (AL S) j o i).1 + 1, ((rsU (AL S) j o i).2)) := by
                      show (if (prB (AL S) j (i / 2) o (i % 2) && prB (AL S) o (i % 2) j (i / 2)) = true then (_ + 1, if (rsU (AL S) j o i).2 = -9 then nI (10 * (i / 2) + i % 2) else _) else _) = _
                      rw [if_pos (by assumption)]
                      rw [if_neg (fun q => absurd (hzz.mpr q) (by omega))]
                    exact ih (i + 1) μ8 _ _ _ (by omega) (modX_tr hX_8 (fun _ _ => trivial)) (fun z hz => by rw [ho_8 z (by omega)]; rw [hoiLOOP z (by omega)]) hW (by rw [e9]; exact lv_sub hl [3, 4, 5, 6, 1, 2, 0] rfl)
                  · skip
                    refine lv_bipush (v := nI 10) hx hb dX5_rests_74 (by decide) ?_
                    refine lv_iload hx hb dX5_rests_76 (lv_at hl 6 rfl) ?_
                    refine lv_iconst (v := nI 2) hx hb dX5_rests_78 (by decide) ?_
                    refine nv_div F (by omega) (by omega) (by omega) dX5_rests_79 ?_
                    refine nv_mul F dX5_rests_80 ?_
                    refine lv_iload hx hb dX5_rests_81 (lv_at hl 6 rfl) ?_
                    refine lv_iconst (v := nI 2) hx hb dX5_rests_83 (by decide) ?_
                    refine nv_rem F (by omega) (by omega) (by omega) dX5_rests_84 ?_
                    refine nv_add F dX5_rests_85 ?_
                    refine lv_goto (tgt := 91) hx hb dX5_rests_86 (by decide) ?_
                    refine lv_istore (lv' := [(5, .int (nI ((10 * (i / 2)) + (i % 2)))), (0, .ref (xa cx 136)), (1, .int (nI j)), (2, .int (nI o)), (3, .int w), (4, .int (nI ((rsU (AL S) j o i).1))), (6, .int (nI i))]) hx hb dX5_rests_91 hl (by decide) rfl (fun ls hl => ?_)
                    refine lv_iinc (v := ((nI ((rsU (AL S) j o i).1 + 1)))) (lv' := [(4, .int (nI ((rsU (AL S) j o i).1 + 1))), (5, .int (nI ((10 * (i / 2)) + (i % 2)))), (0, .ref (xa cx 136)), (1, .int (nI j)), (2, .int (nI o)), (3, .int w), (6, .int (nI i))]) hx hb dX5_rests_93 hl (k := 5) rfl (nI_add _ _) (by decide) rfl (fun ls hl => ?_)
                    refine lv_iinc (v := ((nI (i + 1)))) (lv' := [(6, .int (nI (i + 1))), (4, .int (nI ((rsU (AL S) j o i).1 + 1))), (5, .int (nI ((10 * (i / 2)) + (i % 2)))), (0, .ref (xa cx 136)), (1, .int (nI j)), (2, .int (nI o)), (3, .int w)]) hx hb dX5_rests_96 hl (k := 6) rfl (nI_add _ _) (by decide) rfl (fun ls hl => ?_)
                    refine lv_goto (tgt := 46) hx hb dX5_rests_99 (by decide) ?_
                    have hzz := (rsU_z (AL S) j o i (by omega)).2
                    have e9 : rsU (AL S) j o (i + 1) = ((rsU (AL S) j o i).1 + 1, (nI ((10 * (i / 2)) + (i % 2)))) := by
                      show (if (prB (AL S) j (i / 2) o (i % 2) && prB (AL S) o (i % 2) j (i / 2)) = true then (_ + 1, if (rsU (AL S) j o i).2 = -9 then nI (10 * (i / 2) + i % 2) else _) else _) = _
                      rw [if_pos (by assumption)]
                      rw [if_pos (hzz.mp (by omega))]
                    exact ih (i + 1) μ8 _ _ _ (by omega) (modX_tr hX_8 (fun _ _ => trivial)) (fun z hz => by rw [ho_8 z (by omega)]; rw [hoiLOOP z (by omega)]) hW (by rw [e9]; exact lv_sub hl [3, 4, 5, 6, 1, 2, 0] rfl)
          exact LOOP 4 0 μ _ _ _ (by omega) (modX_tr hX (fun _ _ => trivial)) off_rf hW (lv_sub hl [3, 4, 5, 6, 2, 1, 0] rfl)
        · skip
          refine lv_bipush (v := (-2)) hx hb dX5_rests_33 (by decide) ?_
          exact rt_ie F hr hlk hW (by unfold r_rests; rw [inR_j hj (by omega), inR_j hoo (by omega)]; show _ = (if (decide (¬ nI j = nI o) && halI w) = true then _ else _); rw [if_neg (by first | (rw [‹halI w = false›, Bool.and_false]; decide) | (rw [decide_eq_false (fun q => q (congrArg nI (by assumption)))]; simp))]) ⟨(modX_tr hX (fun _ _ => trivial)), off_rf⟩ dX5_rests_35
    · skip
      refine lv_iconst (v := (-1)) hx hb dX5_rests_16 (by decide) ?_
      exact rt_ie F hr hlk hW (by unfold r_rests; first | (rw [‹inR h (Ln (AL S)) = false›]; rfl) | (rw [‹inR k (Ln (AL S)) = false›, Bool.and_false]; rfl)) ⟨(modX_tr hX (fun _ _ => trivial)), off_rf⟩ dX5_rests_17
