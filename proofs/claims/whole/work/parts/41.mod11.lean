theorem i_a0 (x : Int32) : x + nI 0 = x := by
  show x + 0 = x
  exact Int32.add_zero x
theorem i_s0 (x : Int32) : x - nI 0 = x := by
  show x - 0 = x
  exact Int32.sub_zero x
theorem lv_sub9 {f : Nat → Int32} {o j w : Nat} {L : LN} (h : lv f o L) (hn : Ln L ≤ 6) (hj : j < Ln L) (hw : w ≤ Ls L j) (h9 : w ≤ 9) : lv (upd f (o + 6 + j) (nI (Ls L j - w))) o (subS L j w) := by
  by_cases e : w = 0
  · subst e
    have : subS L j 0 = L := by
      unfold subS
      rw [if_neg (fun z => by have := of_decide_eq_true z; omega)]
    rw [this]
    exact lv_same h (h.1 j hj).2.1
  · have hc : canS L j w = true := decide_eq_true ⟨hj, ⟨by omega, h9⟩, hw⟩
    unfold subS
    rw [if_pos hc]
    exact lv_s h hn hj
theorem subS_n (L : LN) (j v : Nat) : Ln (subS L j v) = Ln L := shp_subS.1
theorem Ls_sub {L : LN} {j v t : Nat} (h : t = j → v = 0) : Ls (subS L j v) t = Ls L t := by
  unfold subS
  split
  · rename_i z
    have z := of_decide_eq_true z
    show va_up (Ls L) j (Ls L j - v) t = Ls L t
    rw [va_up_ne _ _ (fun e => by have := h e; omega)]
  · rfl
def safB (L : LN) (one v o w : Nat) : Bool := decide (v ≤ Ls L one ∧ w ≤ Ls L o) && clm L one v o w

set_option maxHeartbeats 4000000 in
set_option maxRecDepth 100000 in
theorem m_isSafe1 {cx : CX} (hI : xI cx) (l : Launch) {μ : ME} {S : AS} {B : Nat} {Tr : (Nat → Int32) → Prop} (hN : 149 ≤ xN cx) (hX : modX cx μ S Tr) (hA : aok S B) (hMo : mok S) (hB : B < 800000) (one o v w : Nat) (h1 : one < Ln (AL S)) (h2 : o < Ln (AL S)) (hv9 : v ≤ 9) (hw9 : w ≤ 9) (hne : one = o → w = 0) (hfit : v ≤ Ls (AL S) one ∧ w ≤ Ls (AL S) o) : MT cx l yX5_isSafe cX5_isSafe 5 (some .boolean) 5 118 [.ref (xa cx 136), .int (nI one), .int (nI o), .int (nI v), .int (nI w)] μ (Ei cx (b2 (safB (AL S) one v o w)) (fun μ1 => modX cx μ1 S (fun _ => True) ∧ off 136 13 μ μ1)) := by
  refine mt_of hI (by decide) (Nat.le_of_ble_eq_true rfl) ?_
  intro p e s m below meth c ls F hr hlk hW hl
  have hx := F.1.1
  have hb := F.1.2.1
  have hts := F.1.2.2.2.2
  obtain ⟨rh, nx, f1, fn, frd, ft, fo, fa, frw, fh, fu, fb, fz, fkp, g136, g137, g138, g139, g140, g141, g142, g143, g144, g145, g146, g147, g148, hg, hv, ht, hnx, hrw, hse, hkp, hTr⟩ := id hX
  have hk := hA.2.1
  have hn6 := hk.1
  have hk4 := hk.2.2.2.1
  have hU := lok_U hk
  have hV0 := modX_V0 hX
  have hw2 : w ≤ Ls (subS (AL S) one v) o := by
    by_cases q : o = one
    · rw [hne q.symm]; exact Nat.zero_le _
    · rw [Ls_sub (fun z => absurd z q)]; exact hfit.2
  have hl : lv_has ls 5 [(0, .ref (xa cx 136)), (1, .int (nI one)), (2, .int (nI o)), (3, .int (nI v)), (4, .int (nI w))] := hl
  refine lv_aload_n hx hb dX5_isSafe_0 rfl (lv_at hl 0 rfl) ?_
  refine cl_v (cl_run (rest := []) F hW e_X5_134 (m_layTrial hI l hN hX hA hMo hB) ⟨Nat.le_of_ble_eq_true rfl, Nat.le_of_ble_eq_true rfl⟩ (by omega) g136 rfl rfl rfl hl (Nat.le_of_ble_eq_true rfl) dX5_isSafe_1 ⟨Nat.zero_le _, Nat.zero_le _⟩) hW (fun μ1 H locs q_1 hW => ?_)
  obtain ⟨hX_1, ho_1⟩ := q_1
  obtain ⟨rh_1, nx_1, f1_1, fn_1, frd_1, ft_1, fo_1, fa_1, frw_1, fh_1, fu_1, fb_1, fz_1, fkp_1, g136_1, g137_1, g138_1, g139_1, g140_1, g141_1, g142_1, g143_1, g144_1, g145_1, g146_1, g147_1, g148_1, hg_1, hv_1, ht_1, hnx_1, hrw_1, hse_1, hkp_1, hTr_1⟩ := id hX_1
  have hs_1 : shp (AL S) (AL S) := shp_rf
  have hkT_1 := hk
  have hn_1 : Ln (AL S) = Ln (AL S) := hs_1.1
  have hV0_1 := modX_V0 hX_1
  have hV1_1 := modX_V1 hX_1 hs_1
  refine lv_aload_n hx hb dX5_isSafe_4 rfl (lv_at hl 0 rfl) ?_
  refine nv_get F hW (by omega) g136_1 rfl iX5 2 (by decide) tw_631 rfl dX5_isSafe_5 ?_
  refine lv_bipush (v := nI 37) hx hb dX5_isSafe_8 (by decide) ?_
  refine lv_iload_n hx hb dX5_isSafe_10 rfl (lv_at hl 1 rfl) ?_
  refine nv_add F dX5_isSafe_11 ?_
  refine lv_dup2_11 hx hb dX5_isSafe_12 rfl rfl ?_
  refine nv_ialdN (x := ((nI (Ls (AL S) one)))) F hW (by omega) g138_1 (by omega) (by decide) (hTr_1.1 one (by omega)).2.1 dX5_isSafe_13 ?_
  refine lv_iload_n hx hb dX5_isSafe_14 rfl (lv_at hl 3 rfl) ?_
  refine nv_sub F hfit.1 dX5_isSafe_15 ?_
  refine nv_iastN F hW (by omega) g138_1 (by omega) (by decide) dX5_isSafe_16 (fun H locs hW => ?_)
  obtain ⟨μ2, eμ2⟩ : ∃ zz9 : ME, zz9 = va_up μ1 138 (.inl (xT cx 0, 62, .inl (upd fn_1 (37 + one) ((nI ((Ls (AL S) one) - v)))))) := ⟨_, rfl⟩
  have hW : St cx s μ2 H locs := by rw [eμ2]; exact hW
  have h136_2 := (congrFun eμ2 136).trans ((va_up_ne _ _ (by omega)).trans g136_1)
  have h137_2 := (congrFun eμ2 137).trans ((va_up_ne _ _ (by omega)).trans g137_1)
  have h138_2 : μ2 138 = .inl (xT cx 0, 62, .inl (upd fn_1 (37 + one) ((nI ((Ls (AL S) one) - v))))) := by rw [eμ2, va_up_self]
  have h139_2 := (congrFun eμ2 139).trans ((va_up_ne _ _ (by omega)).trans g139_1)
  have h140_2 := (congrFun eμ2 140).trans ((va_up_ne _ _ (by omega)).trans g140_1)
  have h141_2 := (congrFun eμ2 141).trans ((va_up_ne _ _ (by omega)).trans g141_1)
  have h142_2 := (congrFun eμ2 142).trans ((va_up_ne _ _ (by omega)).trans g142_1)
  have h143_2 := (congrFun eμ2 143).trans ((va_up_ne _ _ (by omega)).trans g143_1)
  have h144_2 := (congrFun eμ2 144).trans ((va_up_ne _ _ (by omega)).trans g144_1)
  have h145_2 := (congrFun eμ2 145).trans ((va_up_ne _ _ (by omega)).trans g145_1)
  have h146_2 := (congrFun eμ2 146).trans ((va_up_ne _ _ (by omega)).trans g146_1)
  have h147_2 := (congrFun eμ2 147).trans ((va_up_ne _ _ (by omega)).trans g147_1)
  have h148_2 := (congrFun eμ2 148).trans ((va_up_ne _ _ (by omega)).trans g148_1)
  have hX_t2 : modX cx μ2 S (fun fn => lv fn 31 (subS (AL S) one v)) := modX_138 hX_1 hn6 g138_1 eμ2 (fun z hz => upd_ne (by omega)) (lv_sub9 (o := 31) hTr_1 hn6 h1 hfit.1 hv9)
  obtain ⟨rh_t2, nx_t2, f1_t2, fn_t2, frd_t2, ft_t2, fo_t2, fa_t2, frw_t2, fh_t2, fu_t2, fb_t2, fz_t2, fkp_t2, g136_t2, g137_t2, g138_t2, g139_t2, g140_t2, g141_t2, g142_t2, g143_t2, g144_t2, g145_t2, g146_t2, g147_t2, g148_t2, hg_t2, hv_t2, ht_t2, hnx_t2, hrw_t2, hse_t2, hkp_t2, hTr_t2⟩ := id hX_t2
  have hs_t2 : shp (subS (AL S) one v) (AL S) := shp_subS
  have hkT_t2 := lok_subS hk one v
  have hn_t2 : Ln (subS (AL S) one v) = Ln (AL S) := hs_t2.1
  have hV0_t2 := modX_V0 hX_t2
  have hV1_t2 := modX_V1 hX_t2 hs_t2
  refine lv_aload_n hx hb dX5_isSafe_17 rfl (lv_at hl 0 rfl) ?_
  refine nv_get F hW (by omega) g136_t2 rfl iX5 2 (by decide) tw_631 rfl dX5_isSafe_18 ?_
  refine lv_bipush (v := nI 37) hx hb dX5_isSafe_21 (by decide) ?_
  refine lv_iload_n hx hb dX5_isSafe_23 rfl (lv_at hl 2 rfl) ?_
  refine nv_add F dX5_isSafe_24 ?_
  refine lv_dup2_11 hx hb dX5_isSafe_25 rfl rfl ?_
  refine nv_ialdN (x := ((nI (Ls (subS (AL S) one v) o)))) F hW (by omega) g138_t2 (by omega) (by decide) (hTr_t2.1 o (by omega)).2.1 dX5_isSafe_26 ?_
  refine lv_iload hx hb dX5_isSafe_27 (lv_at hl 4 rfl) ?_
  refine nv_sub F hw2 dX5_isSafe_29 ?_
  refine nv_iastN F hW (by omega) g138_t2 (by omega) (by decide) dX5_isSafe_30 (fun H locs hW => ?_)
  obtain ⟨μ3, eμ3⟩ : ∃ zz9 : ME, zz9 = va_up μ2 138 (.inl (xT cx 0, 62, .inl (upd fn_t2 (37 + o) ((nI ((Ls (subS (AL S) one v) o) - w)))))) := ⟨_, rfl⟩
  have hW : St cx s μ3 H locs := by rw [eμ3]; exact hW
  have h136_3 := (congrFun eμ3 136).trans ((va_up_ne _ _ (by omega)).trans g136_t2)
  have h137_3 := (congrFun eμ3 137).trans ((va_up_ne _ _ (by omega)).trans g137_t2)
  have h138_3 : μ3 138 = .inl (xT cx 0, 62, .inl (upd fn_t2 (37 + o) ((nI ((Ls (subS (AL S) one v) o) - w))))) := by rw [eμ3, va_up_self]
  have h139_3 := (congrFun eμ3 139).trans ((va_up_ne _ _ (by omega)).trans g139_t2)
  have h140_3 := (congrFun eμ3 140).trans ((va_up_ne _ _ (by omega)).trans g140_t2)
  have h141_3 := (congrFun eμ3 141).trans ((va_up_ne _ _ (by omega)).trans g141_t2)
  have h142_3 := (congrFun eμ3 142).trans ((va_up_ne _ _ (by omega)).trans g142_t2)
  have h143_3 := (congrFun eμ3 143).trans ((va_up_ne _ _ (by omega)).trans g143_t2)
  have h144_3 := (congrFun eμ3 144).trans ((va_up_ne _ _ (by omega)).trans g144_t2)
  have h145_3 := (congrFun eμ3 145).trans ((va_up_ne _ _ (by omega)).trans g145_t2)
  have h146_3 := (congrFun eμ3 146).trans ((va_up_ne _ _ (by omega)).trans g146_t2)
  have h147_3 := (congrFun eμ3 147).trans ((va_up_ne _ _ (by omega)).trans g147_t2)
  have h148_3 := (congrFun eμ3 148).trans ((va_up_ne _ _ (by omega)).trans g148_t2)
  have hX_t3 : modX cx μ3 S (fun fn => lv fn 31 (subS (subS (AL S) one v) o w)) := modX_138 hX_t2 hn6 g138_t2 eμ3 (fun z hz => upd_ne (by omega)) (lv_sub9 (o := 31) hTr_t2 (by omega) (by omega) hw2 hw9)
  obtain ⟨rh_t3, nx_t3, f1_t3, fn_t3, frd_t3, ft_t3, fo_t3, fa_t3, frw_t3, fh_t3, fu_t3, fb_t3, fz_t3, fkp_t3, g136_t3, g137_t3, g138_t3, g139_t3, g140_t3, g141_t3, g142_t3, g143_t3, g144_t3, g145_t3, g146_t3, g147_t3, g148_t3, hg_t3, hv_t3, ht_t3, hnx_t3, hrw_t3, hse_t3, hkp_t3, hTr_t3⟩ := id hX_t3
  have hs_t3 : shp (subS (subS (AL S) one v) o w) (AL S) := shp_tr shp_subS shp_subS
  have hkT_t3 := lok_subS (lok_subS hk one v) o w
  have hn_t3 : Ln (subS (subS (AL S) one v) o w) = Ln (AL S) := hs_t3.1
  have hV0_t3 := modX_V0 hX_t3
  have hV1_t3 := modX_V1 hX_t3 hs_t3
  refine lv_aload_n hx hb dX5_isSafe_31 rfl (lv_at hl 0 rfl) ?_
  refine nv_get F hW (by omega) g136_t3 rfl iX5 2 (by decide) tw_631 rfl dX5_isSafe_32 ?_
  refine lv_bipush (v := nI 37) hx hb dX5_isSafe_35 (by decide) ?_
  refine lv_iload_n hx hb dX5_isSafe_37 rfl (lv_at hl 1 rfl) ?_
  refine nv_add F dX5_isSafe_38 ?_
  refine nv_ialdN (x := ((nI (Ls (subS (subS (AL S) one v) o w) one)))) F hW (by omega) g138_t3 (by omega) (by decide) (hTr_t3.1 one (by omega)).2.1 dX5_isSafe_39 ?_
  refine nv_zlt (tgt := 68) F (by have := (lok_subS (lok_subS hk one v) o w).2.2.2.1 one (by rw [subS_n, subS_n]; exact h1); omega) dX5_isSafe_40 (by decide) (fun c_4 => ?_) (fun c_4 => ?_)
  · skip
    exact absurd c_4 (by omega)
  · skip
    refine lv_aload_n hx hb dX5_isSafe_43 rfl (lv_at hl 0 rfl) ?_
    refine nv_get F hW (by omega) g136_t3 rfl iX5 2 (by decide) tw_631 rfl dX5_isSafe_44 ?_
    refine lv_bipush (v := nI 37) hx hb dX5_isSafe_47 (by decide) ?_
    refine lv_iload_n hx hb dX5_isSafe_49 rfl (lv_at hl 2 rfl) ?_
    refine nv_add F dX5_isSafe_50 ?_
    refine nv_ialdN (x := ((nI (Ls (subS (subS (AL S) one v) o w) o)))) F hW (by omega) g138_t3 (by omega) (by decide) (hTr_t3.1 o (by omega)).2.1 dX5_isSafe_51 ?_
    refine nv_zlt (tgt := 68) F (by have := (lok_subS (lok_subS hk one v) o w).2.2.2.1 o (by rw [subS_n, subS_n]; exact h2); omega) dX5_isSafe_52 (by decide) (fun c_5 => ?_) (fun c_5 => ?_)
    · skip
      exact absurd c_5 (by omega)
    · skip
      refine lv_aload_n hx hb dX5_isSafe_55 rfl (lv_at hl 0 rfl) ?_
      refine lv_bipush (v := nI 6) hx hb dX5_isSafe_56 (by decide) ?_
      refine cl_ie (cl_run (rest := []) F hW e_X5_137 (m_goOn hI l hN hX_t3 hA hMo hB hs_t3 hkT_t3 (by omega) 6 (by omega)) ⟨Nat.le_of_ble_eq_true rfl, Nat.le_of_ble_eq_true rfl⟩ (by omega) g136_t3 rfl rfl rfl hl (Nat.le_of_ble_eq_true rfl) dX5_isSafe_58 ⟨Nat.zero_le _, Nat.zero_le _⟩) hW (fun μ6 H locs q_6 hW => ?_)
      obtain ⟨hX_6, ho_6⟩ := q_6
      obtain ⟨rh_6, nx_6, f1_6, fn_6, frd_6, ft_6, fo_6, fa_6, frw_6, fh_6, fu_6, fb_6, fz_6, fkp_6, g136_6, g137_6, g138_6, g139_6, g140_6, g141_6, g142_6, g143_6, g144_6, g145_6, g146_6, g147_6, g148_6, hg_6, hv_6, ht_6, hnx_6, hrw_6, hse_6, hkp_6, hTr_6⟩ := id hX_6
      have hs_6 : shp (hrs 6 (subS (subS (AL S) one v) o w)) (AL S) := shp_tr (shp_hrs 6) hs_t3
      have hkT_6 := lok_hrs hkT_t3 6
      have hn_6 : Ln (hrs 6 (subS (subS (AL S) one v) o w)) = Ln (AL S) := hs_6.1
      have hV0_6 := modX_V0 hX_6
      have hV1_6 := modX_V1 hX_6 hs_6
      refine nv_zne (tgt := 68) F (by have := orF_lt (L := subS (subS (AL S) one v) o w) (by rw [subS_n, subS_n]; exact hn6) 6; omega) dX5_isSafe_61 (by decide) (fun c_7 => ?_) (fun c_7 => ?_)
      · skip
        refine lv_iconst (v := nI 0) hx hb dX5_isSafe_68 (by decide) ?_
        exact rt_ze F hr hlk hW (by unfold safB; rw [decide_eq_true hfit, Bool.true_and]; unfold clm; rw [show calm 6 (subS (subS (AL S) one v) o w) = false from Bool.eq_false_iff.mpr (fun z => absurd ((orF_calm _ 6).mpr z) (by assumption))]; rfl) ⟨(modX_tr hX_6 (fun _ _ => trivial)), (fun z hz => by rw [ho_6 z (by omega)]; rw [eμ3, va_up_ne _ _ (by omega)]; rw [eμ2, va_up_ne _ _ (by omega)]; rw [ho_1 z (by omega)])⟩ dX5_isSafe_69
      · skip
        refine lv_iconst (v := nI 1) hx hb dX5_isSafe_64 (by decide) ?_
        refine lv_goto (tgt := 69) hx hb dX5_isSafe_65 (by decide) ?_
        exact rt_ze F hr hlk hW (by unfold safB; rw [decide_eq_true hfit, Bool.true_and]; unfold clm; rw [(orF_calm _ 6).mp (by assumption)]; rfl) ⟨(modX_tr hX_6 (fun _ _ => trivial)), (fun z hz => by rw [ho_6 z (by omega)]; rw [eμ3, va_up_ne _ _ (by omega)]; rw [eμ2, va_up_ne _ _ (by omega)]; rw [ho_1 z (by omega)])⟩ dX5_isSafe_69

theorem nofit {f : Nat → Int32} {one o v w n a b : Nat} (h1 : one < n) (h2 : o < n) (hn : n ≤ 6) (hne : one = o → w = 0) (e1 : f (37 + one) = nI a) (e2 : f (37 + o) = nI b) (hv : v < 1000) (hw : w < 1000) (ha : a < 1000) (hb : b < 1000)
    (q1 : ¬ (upd (upd f (37 + one) (nI a - nI v)) (37 + o) (upd f (37 + one) (nI a - nI v) (37 + o) - nI w)) (37 + one) < 0) (q2 : ¬ (upd (upd f (37 + one) (nI a - nI v)) (37 + o) (upd f (37 + one) (nI a - nI v) (37 + o) - nI w)) (37 + o) < 0) : v ≤ a ∧ w ≤ b := by
  rw [upd_eq rfl] at q2
  by_cases e : one = o
  · subst e
    rw [hne rfl, upd_eq rfl, i_s0] at q2
    refine ⟨?_, by rw [hne rfl]; exact Nat.zero_le _⟩
    rcases Nat.lt_or_ge a v with z | z
    · exact absurd (pk_sneg (by omega) z) q2
    · exact z
  · rw [upd_ne (by omega), upd_eq rfl] at q1
    rw [upd_ne (by omega), e2] at q2
    constructor
    · rcases Nat.lt_or_ge a v with z | z
      · exact absurd (pk_sneg (by omega) z) q1
      · exact z
    · rcases Nat.lt_or_ge b w with z | z
      · exact absurd (pk_sneg (by omega) z) q2
      · exact z

set_option maxHeartbeats 4000000 in
set_option maxRecDepth 100000 in
theorem m_isSafe0 {cx : CX} (hI : xI cx) (l : Launch) {μ : ME} {S : AS} {B : Nat} {Tr : (Nat → Int32) → Prop} (hN : 149 ≤ xN cx) (hX : modX cx μ S Tr) (hA : aok S B) (hMo : mok S) (hB : B < 800000) (one o v w : Nat) (h1 : one < Ln (AL S)) (h2 : o < Ln (AL S)) (hv9 : v ≤ 9) (hw9 : w ≤ 9) (hne : one = o → w = 0) (hfit : ¬ (v ≤ Ls (AL S) one ∧ w ≤ Ls (AL S) o)) : MT cx l yX5_isSafe cX5_isSafe 5 (some .boolean) 5 118 [.ref (xa cx 136), .int (nI one), .int (nI o), .int (nI v), .int (nI w)] μ (Ei cx (b2 (safB (AL S) one v o w)) (fun μ1 => modX cx μ1 S (fun _ => True) ∧ off 136 13 μ μ1)) := by
  refine mt_of hI (by decide) (Nat.le_of_ble_eq_true rfl) ?_
  intro p e s m below meth c ls F hr hlk hW hl
  have hx := F.1.1
  have hb := F.1.2.1
  have hts := F.1.2.2.2.2
  obtain ⟨rh, nx, f1, fn, frd, ft, fo, fa, frw, fh, fu, fb, fz, fkp, g136, g137, g138, g139, g140, g141, g142, g143, g144, g145, g146, g147, g148, hg, hv, ht, hnx, hrw, hse, hkp, hTr⟩ := id hX
  have hk := hA.2.1
  have hn6 := hk.1
  have hk4 := hk.2.2.2.1
  have hU := lok_U hk
  have hV0 := modX_V0 hX
  have hl : lv_has ls 5 [(0, .ref (xa cx 136)), (1, .int (nI one)), (2, .int (nI o)), (3, .int (nI v)), (4, .int (nI w))] := hl
  refine lv_aload_n hx hb dX5_isSafe_0 rfl (lv_at hl 0 rfl) ?_
  refine cl_v (cl_run (rest := []) F hW e_X5_134 (m_layTrial hI l hN hX hA hMo hB) ⟨Nat.le_of_ble_eq_true rfl, Nat.le_of_ble_eq_true rfl⟩ (by omega) g136 rfl rfl rfl hl (Nat.le_of_ble_eq_true rfl) dX5_isSafe_1 ⟨Nat.zero_le _, Nat.zero_le _⟩) hW (fun μ1 H locs q_1 hW => ?_)
  obtain ⟨hX_1, ho_1⟩ := q_1
  obtain ⟨rh_1, nx_1, f1_1, fn_1, frd_1, ft_1, fo_1, fa_1, frw_1, fh_1, fu_1, fb_1, fz_1, fkp_1, g136_1, g137_1, g138_1, g139_1, g140_1, g141_1, g142_1, g143_1, g144_1, g145_1, g146_1, g147_1, g148_1, hg_1, hv_1, ht_1, hnx_1, hrw_1, hse_1, hkp_1, hTr_1⟩ := id hX_1
  have hs_1 : shp (AL S) (AL S) := shp_rf
  have hkT_1 := hk
  have hn_1 : Ln (AL S) = Ln (AL S) := hs_1.1
  have hV0_1 := modX_V0 hX_1
  have hV1_1 := modX_V1 hX_1 hs_1
  refine lv_aload_n hx hb dX5_isSafe_4 rfl (lv_at hl 0 rfl) ?_
  refine nv_get F hW (by omega) g136_1 rfl iX5 2 (by decide) tw_631 rfl dX5_isSafe_5 ?_
  refine lv_bipush (v := nI 37) hx hb dX5_isSafe_8 (by decide) ?_
  refine lv_iload_n hx hb dX5_isSafe_10 rfl (lv_at hl 1 rfl) ?_
  refine nv_add F dX5_isSafe_11 ?_
  refine lv_dup2_11 hx hb dX5_isSafe_12 rfl rfl ?_
  refine nv_ialdN (x := ((nI (Ls (AL S) one)))) F hW (by omega) g138_1 (by omega) (by decide) (hTr_1.1 one (by omega)).2.1 dX5_isSafe_13 ?_
  refine lv_iload_n hx hb dX5_isSafe_14 rfl (lv_at hl 3 rfl) ?_
  refine lv_isub hx hb dX5_isSafe_15 ?_
  refine nv_iastN F hW (by omega) g138_1 (by omega) (by decide) dX5_isSafe_16 (fun H locs hW => ?_)
  obtain ⟨μ2, eμ2⟩ : ∃ zz9 : ME, zz9 = va_up μ1 138 (.inl (xT cx 0, 62, .inl (upd fn_1 (37 + one) ((((nI (Ls (AL S) one))) - ((nI v))))))) := ⟨_, rfl⟩
  have hW : St cx s μ2 H locs := by rw [eμ2]; exact hW
  have h136_2 := (congrFun eμ2 136).trans ((va_up_ne _ _ (by omega)).trans g136_1)
  have h137_2 := (congrFun eμ2 137).trans ((va_up_ne _ _ (by omega)).trans g137_1)
  have h138_2 : μ2 138 = .inl (xT cx 0, 62, .inl (upd fn_1 (37 + one) ((((nI (Ls (AL S) one))) - ((nI v)))))) := by rw [eμ2, va_up_self]
  have h139_2 := (congrFun eμ2 139).trans ((va_up_ne _ _ (by omega)).trans g139_1)
  have h140_2 := (congrFun eμ2 140).trans ((va_up_ne _ _ (by omega)).trans g140_1)
  have h141_2 := (congrFun eμ2 141).trans ((va_up_ne _ _ (by omega)).trans g141_1)
  have h142_2 := (congrFun eμ2 142).trans ((va_up_ne _ _ (by omega)).trans g142_1)
  have h143_2 := (congrFun eμ2 143).trans ((va_up_ne _ _ (by omega)).trans g143_1)
  have h144_2 := (congrFun eμ2 144).trans ((va_up_ne _ _ (by omega)).trans g144_1)
  have h145_2 := (congrFun eμ2 145).trans ((va_up_ne _ _ (by omega)).trans g145_1)
  have h146_2 := (congrFun eμ2 146).trans ((va_up_ne _ _ (by omega)).trans g146_1)
  have h147_2 := (congrFun eμ2 147).trans ((va_up_ne _ _ (by omega)).trans g147_1)
  have h148_2 := (congrFun eμ2 148).trans ((va_up_ne _ _ (by omega)).trans g148_1)
  refine lv_aload_n hx hb dX5_isSafe_17 rfl (lv_at hl 0 rfl) ?_
  refine nv_get F hW (by omega) h136_2 rfl iX5 2 (by decide) tw_631 rfl dX5_isSafe_18 ?_
  refine lv_bipush (v := nI 37) hx hb dX5_isSafe_21 (by decide) ?_
  refine lv_iload_n hx hb dX5_isSafe_23 rfl (lv_at hl 2 rfl) ?_
  refine nv_add F dX5_isSafe_24 ?_
  refine lv_dup2_11 hx hb dX5_isSafe_25 rfl rfl ?_
  refine nv_ialdN (x := (((upd fn_1 (37 + one) ((((nI (Ls (AL S) one))) - ((nI v))))) (37 + o)))) F hW (by omega) h138_2 (by omega) (by decide) rfl dX5_isSafe_26 ?_
  refine lv_iload hx hb dX5_isSafe_27 (lv_at hl 4 rfl) ?_
  refine lv_isub hx hb dX5_isSafe_29 ?_
  refine nv_iastN F hW (by omega) h138_2 (by omega) (by decide) dX5_isSafe_30 (fun H locs hW => ?_)
  obtain ⟨μ3, eμ3⟩ : ∃ zz9 : ME, zz9 = va_up μ2 138 (.inl (xT cx 0, 62, .inl (upd (upd fn_1 (37 + one) ((((nI (Ls (AL S) one))) - ((nI v))))) (37 + o) (((((upd fn_1 (37 + one) ((((nI (Ls (AL S) one))) - ((nI v))))) (37 + o))) - ((nI w))))))) := ⟨_, rfl⟩
  have hW : St cx s μ3 H locs := by rw [eμ3]; exact hW
  have h136_3 := (congrFun eμ3 136).trans ((va_up_ne _ _ (by omega)).trans h136_2)
  have h137_3 := (congrFun eμ3 137).trans ((va_up_ne _ _ (by omega)).trans h137_2)
  have h138_3 : μ3 138 = .inl (xT cx 0, 62, .inl (upd (upd fn_1 (37 + one) ((((nI (Ls (AL S) one))) - ((nI v))))) (37 + o) (((((upd fn_1 (37 + one) ((((nI (Ls (AL S) one))) - ((nI v))))) (37 + o))) - ((nI w)))))) := by rw [eμ3, va_up_self]
  have h139_3 := (congrFun eμ3 139).trans ((va_up_ne _ _ (by omega)).trans h139_2)
  have h140_3 := (congrFun eμ3 140).trans ((va_up_ne _ _ (by omega)).trans h140_2)
  have h141_3 := (congrFun eμ3 141).trans ((va_up_ne _ _ (by omega)).trans h141_2)
  have h142_3 := (congrFun eμ3 142).trans ((va_up_ne _ _ (by omega)).trans h142_2)
  have h143_3 := (congrFun eμ3 143).trans ((va_up_ne _ _ (by omega)).trans h143_2)
  have h144_3 := (congrFun eμ3 144).trans ((va_up_ne _ _ (by omega)).trans h144_2)
  have h145_3 := (congrFun eμ3 145).trans ((va_up_ne _ _ (by omega)).trans h145_2)
  have h146_3 := (congrFun eμ3 146).trans ((va_up_ne _ _ (by omega)).trans h146_2)
  have h147_3 := (congrFun eμ3 147).trans ((va_up_ne _ _ (by omega)).trans h147_2)
  have h148_3 := (congrFun eμ3 148).trans ((va_up_ne _ _ (by omega)).trans h148_2)
  refine lv_aload_n hx hb dX5_isSafe_31 rfl (lv_at hl 0 rfl) ?_
  refine nv_get F hW (by omega) h136_3 rfl iX5 2 (by decide) tw_631 rfl dX5_isSafe_32 ?_
  refine lv_bipush (v := nI 37) hx hb dX5_isSafe_35 (by decide) ?_
  refine lv_iload_n hx hb dX5_isSafe_37 rfl (lv_at hl 1 rfl) ?_
  refine nv_add F dX5_isSafe_38 ?_
  refine nv_ialdN (x := (((upd (upd fn_1 (37 + one) ((((nI (Ls (AL S) one))) - ((nI v))))) (37 + o) (((((upd fn_1 (37 + one) ((((nI (Ls (AL S) one))) - ((nI v))))) (37 + o))) - ((nI w))))) (37 + one)))) F hW (by omega) h138_3 (by omega) (by decide) rfl dX5_isSafe_39 ?_
  refine lv_if_lt (tgt := 68) hx hb dX5_isSafe_40 (by decide) (fun c_4 => ?_) (fun c_4 => ?_)
  · skip
    refine lv_iconst (v := nI 0) hx hb dX5_isSafe_68 (by decide) ?_
    have hm9 := modX_138 (Tr1 := fun _ => True) hX_1 hn6 g138_1 (up_fun h138_3 (fun z hz => by rw [eμ3, va_up_ne _ _ hz]; rw [eμ2, va_up_ne _ _ hz])) (fun z hz => by rw [upd_ne (by omega), upd_ne (by omega)]) trivial
    exact rt_ze F hr hlk hW (by unfold safB; rw [decide_eq_false hfit]; rfl) ⟨hm9, (fun z hz => by rw [eμ3, va_up_ne _ _ (by omega)]; rw [eμ2, va_up_ne _ _ (by omega)]; rw [ho_1 z (by omega)])⟩ dX5_isSafe_69
  · skip
    refine lv_aload_n hx hb dX5_isSafe_43 rfl (lv_at hl 0 rfl) ?_
    refine nv_get F hW (by omega) h136_3 rfl iX5 2 (by decide) tw_631 rfl dX5_isSafe_44 ?_
    refine lv_bipush (v := nI 37) hx hb dX5_isSafe_47 (by decide) ?_
    refine lv_iload_n hx hb dX5_isSafe_49 rfl (lv_at hl 2 rfl) ?_
    refine nv_add F dX5_isSafe_50 ?_
    refine nv_ialdN (x := (((upd (upd fn_1 (37 + one) ((((nI (Ls (AL S) one))) - ((nI v))))) (37 + o) (((((upd fn_1 (37 + one) ((((nI (Ls (AL S) one))) - ((nI v))))) (37 + o))) - ((nI w))))) (37 + o)))) F hW (by omega) h138_3 (by omega) (by decide) rfl dX5_isSafe_51 ?_
    refine lv_if_lt (tgt := 68) hx hb dX5_isSafe_52 (by decide) (fun c_5 => ?_) (fun c_5 => ?_)
    · skip
      refine lv_iconst (v := nI 0) hx hb dX5_isSafe_68 (by decide) ?_
      have hm9 := modX_138 (Tr1 := fun _ => True) hX_1 hn6 g138_1 (up_fun h138_3 (fun z hz => by rw [eμ3, va_up_ne _ _ hz]; rw [eμ2, va_up_ne _ _ hz])) (fun z hz => by rw [upd_ne (by omega), upd_ne (by omega)]) trivial
      exact rt_ze F hr hlk hW (by unfold safB; rw [decide_eq_false hfit]; rfl) ⟨hm9, (fun z hz => by rw [eμ3, va_up_ne _ _ (by omega)]; rw [eμ2, va_up_ne _ _ (by omega)]; rw [ho_1 z (by omega)])⟩ dX5_isSafe_69
    · skip
      exact absurd (nofit (f := fn_1) h1 h2 hn6 hne (hTr_1.1 one h1).2.1 (hTr_1.1 o h2).2.1 (by omega) (by omega) (by have := (hk4 one h1).2.1; omega) (by have := (hk4 o h2).2.1; omega) (by assumption) c_5) hfit

theorem m_isSafe {cx : CX} (hI : xI cx) (l : Launch) {μ : ME} {S : AS} {B : Nat} {Tr : (Nat → Int32) → Prop} (hN : 149 ≤ xN cx) (hX : modX cx μ S Tr) (hA : aok S B) (hMo : mok S) (hB : B < 800000) (one o v w : Nat) (h1 : one < Ln (AL S)) (h2 : o < Ln (AL S)) (hv9 : v ≤ 9) (hw9 : w ≤ 9) (hne : one = o → w = 0) : MT cx l yX5_isSafe cX5_isSafe 5 (some .boolean) 5 118 [.ref (xa cx 136), .int (nI one), .int (nI o), .int (nI v), .int (nI w)] μ (Ei cx (b2 (safB (AL S) one v o w)) (fun μ1 => modX cx μ1 S (fun _ => True) ∧ off 136 13 μ μ1)) := by
  by_cases h : v ≤ Ls (AL S) one ∧ w ≤ Ls (AL S) o
  · exact m_isSafe1 hI l hN hX hA hMo hB one o v w h1 h2 hv9 hw9 hne h
  · exact m_isSafe0 hI l hN hX hA hMo hB one o v w h1 h2 hv9 hw9 hne h
