theorem m_goOn1 {cx : CX} (hI : xI cx) (l : Launch) {μ : ME} {S : AS} {B : Nat} {LT : LN} {BT : Nat} (hN : 149 ≤ xN cx) (hX : modX cx μ S (fun fn => lv fn 31 LT)) (hA : aok S B) (hMo : mok S) (hB : B < 800000) (hs : shp LT (AL S)) (hkT : lok LT BT) (hBT : BT < 900000) : MT cx l yX5_goOn cX5_goOn 4 (some .int) 4 95 [.ref (xa cx 136), .int (nI 1)] μ (Ei cx (nI (hF LT)) (fun μ1 => modX cx μ1 S (fun fn => lv fn 31 (hour LT)) ∧ off 136 13 μ μ1)) := by
  have h := m_goOn hI l hN hX hA hMo hB hs hkT hBT 1 (by omega)
  rw [show orF LT 1 = hF LT from Nat.zero_or _] at h
  exact h

theorem lv_raise {f : Nat → Int32} {o j k : Nat} {L : LN} (h : lv f o L) (hn : Ln L ≤ 6) (hj : j < Ln L) (hc : canR L j = true) (hk : k = if Lk L j = 4 then 0 else Lk L j) : lv (upd (upd (upd f (o + 0 + j) (nI k)) (o + 18 + j) (nI 1)) (o + 24 + j) (nI (Ls L j))) o (raiseL L j) := by
  unfold raiseL
  rw [if_pos hc]
  refine ⟨fun t ht => ?_, ?_⟩
  · have ht : t < Ln L := ht
    have a := h.1 t ht
    rw [lst_up]
    rotate_left
    · exact hj
    show _ = nI ((if Lk L j = 4 then va_up (Lk L) j 0 else Lk L) t) ∧ _ = nI (Ls L t) ∧ _ = nI (Ld L t) ∧ _ = nI (if (lst L t || decide (t = j)) = true then 1 else 0) ∧ _ = nI (va_up (Ll L) j (Ls L j) t)
    by_cases e : t = j
    · subst e
      refine ⟨?_, ?_, ?_, ?_, ?_⟩
      · rw [upd_ne (by omega), upd_ne (by omega), upd_eq rfl, hk]
        congr 1
        split
        · rw [va_up_self]
        · rfl
      · rw [upd_ne (by omega), upd_ne (by omega), upd_ne (by omega)]
        exact a.2.1
      · rw [upd_ne (by omega), upd_ne (by omega), upd_ne (by omega)]
        exact a.2.2.1
      · rw [upd_ne (by omega), upd_eq rfl, decide_eq_true rfl, Bool.or_true, if_pos rfl]
      · rw [upd_eq rfl, va_up_self]
    · rw [upd_ne (by omega), upd_ne (by omega), upd_ne (by omega), upd_ne (by omega), upd_ne (by omega), upd_ne (by omega), upd_ne (by omega), upd_ne (by omega), upd_ne (by omega), upd_ne (by omega), upd_ne (by omega), upd_ne (by omega), upd_ne (by omega), upd_ne (by omega), upd_ne (by omega), va_up_ne _ _ e, decide_eq_false e, Bool.or_false]
      refine ⟨a.1.trans ?_, a.2⟩
      congr 1
      split
      · rw [va_up_ne _ _ e]
      · rfl
  · rw [upd_ne (by omega), upd_ne (by omega), upd_ne (by omega)]
    exact h.2

set_option maxHeartbeats 4000000 in
set_option maxRecDepth 100000 in
theorem m_buildOn {cx : CX} (hI : xI cx) (l : Launch) {μ : ME} {lvl : Nat} {L : LN} {B : Nat} (hN : 149 ≤ xN cx) (hV : mdV cx μ lvl L) (hk : lok L B) (hlv : lvl ≤ 1) (hB : B < 900000000) (j : Nat) (hj : j < Ln L) (hc9 : canR L j = true) : MT cx l yX5_buildOn cX5_buildOn 4 none 0 0 [.ref (xa cx 136), .int (nI lvl), .int (nI j)] μ (Qv cx (lvP cx μ lvl (raiseL L j))) := by
  refine mt_of hI (by decide) (Nat.le_of_ble_eq_true rfl) ?_
  intro p e s m below meth c ls F hr hlk hW hl
  have hx := F.1.1
  have hb := F.1.2.1
  have hts := F.1.2.2.2.2
  obtain ⟨rh, tn, ac, nx, se, sx, f1, fn, fo, fa, g136, g137, g138, g141, g142, hg, hv⟩ := id hV
  have hn6 := hk.1
  have hk4 := hk.2.2.2.1
  have hU := lok_U hk
  have hl : lv_has ls 4 [(0, .ref (xa cx 136)), (1, .int (nI lvl)), (2, .int (nI j))] := hl
  refine lv_bipush (v := nI 31) hx hb dX5_buildOn_0 (by decide) ?_
  refine lv_iload_n hx hb dX5_buildOn_2 rfl (lv_at hl 1 rfl) ?_
  refine nv_mul F dX5_buildOn_3 ?_
  refine lv_istore_n (lv' := [(3, .int (nI (31 * lvl))), (0, .ref (xa cx 136)), (1, .int (nI lvl)), (2, .int (nI j))]) hx hb dX5_buildOn_4 rfl hl (by decide) rfl (fun ls hl => ?_)
  refine lv_aload_n hx hb dX5_buildOn_5 rfl (lv_at hl 1 rfl) ?_
  refine nv_get F hW (by omega) g136 rfl iX5 2 (by decide) tw_631 rfl dX5_buildOn_6 ?_
  refine lv_iload_n hx hb dX5_buildOn_9 rfl (lv_at hl 0 rfl) ?_
  refine lv_iconst (v := nI 0) hx hb dX5_buildOn_10 (by decide) ?_
  refine nv_add F dX5_buildOn_11 ?_
  refine lv_iload_n hx hb dX5_buildOn_12 rfl (lv_at hl 3 rfl) ?_
  refine nv_add F dX5_buildOn_13 ?_
  refine lv_aload_n hx hb dX5_buildOn_14 rfl (lv_at hl 1 rfl) ?_
  refine nv_get F hW (by omega) g136 rfl iX5 2 (by decide) tw_631 rfl dX5_buildOn_15 ?_
  refine lv_iload_n hx hb dX5_buildOn_18 rfl (lv_at hl 0 rfl) ?_
  refine lv_iconst (v := nI 0) hx hb dX5_buildOn_19 (by decide) ?_
  refine nv_add F dX5_buildOn_20 ?_
  refine lv_iload_n hx hb dX5_buildOn_21 rfl (lv_at hl 3 rfl) ?_
  refine nv_add F dX5_buildOn_22 ?_
  refine nv_ialdN (x := ((nI (Lk L j)))) F hW (by omega) g138 (by omega) (by decide) (hv.1 j hj).1 dX5_buildOn_23 ?_
  refine lv_iconst (v := nI 4) hx hb dX5_buildOn_24 (by decide) ?_
  refine nv_cne (tgt := 32) F (by have := (hk4 j hj).1; omega) (by omega) dX5_buildOn_25 (by decide) (fun c_1 => ?_) (fun c_1 => ?_)
  · skip
    refine lv_aload_n hx hb dX5_buildOn_32 rfl (lv_at hl 1 rfl) ?_
    refine nv_get F hW (by omega) g136 rfl iX5 2 (by decide) tw_631 rfl dX5_buildOn_33 ?_
    refine lv_iload_n hx hb dX5_buildOn_36 rfl (lv_at hl 0 rfl) ?_
    refine lv_iconst (v := nI 0) hx hb dX5_buildOn_37 (by decide) ?_
    refine nv_add F dX5_buildOn_38 ?_
    refine lv_iload_n hx hb dX5_buildOn_39 rfl (lv_at hl 3 rfl) ?_
    refine nv_add F dX5_buildOn_40 ?_
    refine nv_ialdN (x := ((nI (Lk L j)))) F hW (by omega) g138 (by omega) (by decide) (hv.1 j hj).1 dX5_buildOn_41 ?_
    refine nv_iastN F hW (by omega) g138 (by omega) (by decide) dX5_buildOn_42 (fun H locs hW => ?_)
    obtain ⟨μ2, eμ2⟩ : ∃ zz9 : ME, zz9 = va_up μ 138 (.inl (xT cx 0, 62, .inl (upd fn (((31 * lvl) + 0) + j) ((nI (Lk L j)))))) := ⟨_, rfl⟩
    have hW : St cx s μ2 H locs := by rw [eμ2]; exact hW
    have h136_2 := (congrFun eμ2 136).trans ((va_up_ne _ _ (by omega)).trans g136)
    have h137_2 := (congrFun eμ2 137).trans ((va_up_ne _ _ (by omega)).trans g137)
    have h138_2 : μ2 138 = .inl (xT cx 0, 62, .inl (upd fn (((31 * lvl) + 0) + j) ((nI (Lk L j))))) := by rw [eμ2, va_up_self]
    have h141_2 := (congrFun eμ2 141).trans ((va_up_ne _ _ (by omega)).trans g141)
    have h142_2 := (congrFun eμ2 142).trans ((va_up_ne _ _ (by omega)).trans g142)
    refine lv_aload_n hx hb dX5_buildOn_43 rfl (lv_at hl 1 rfl) ?_
    refine nv_get F hW (by omega) h136_2 rfl iX5 2 (by decide) tw_631 rfl dX5_buildOn_44 ?_
    refine lv_iload_n hx hb dX5_buildOn_47 rfl (lv_at hl 0 rfl) ?_
    refine lv_bipush (v := nI 18) hx hb dX5_buildOn_48 (by decide) ?_
    refine nv_add F dX5_buildOn_50 ?_
    refine lv_iload_n hx hb dX5_buildOn_51 rfl (lv_at hl 3 rfl) ?_
    refine nv_add F dX5_buildOn_52 ?_
    refine lv_iconst (v := nI 1) hx hb dX5_buildOn_53 (by decide) ?_
    refine nv_iastN F hW (by omega) h138_2 (by omega) (by decide) dX5_buildOn_54 (fun H locs hW => ?_)
    obtain ⟨μ3, eμ3⟩ : ∃ zz9 : ME, zz9 = va_up μ2 138 (.inl (xT cx 0, 62, .inl (upd (upd fn (((31 * lvl) + 0) + j) ((nI (Lk L j)))) (((31 * lvl) + 18) + j) ((nI 1))))) := ⟨_, rfl⟩
    have hW : St cx s μ3 H locs := by rw [eμ3]; exact hW
    have h136_3 := (congrFun eμ3 136).trans ((va_up_ne _ _ (by omega)).trans h136_2)
    have h137_3 := (congrFun eμ3 137).trans ((va_up_ne _ _ (by omega)).trans h137_2)
    have h138_3 : μ3 138 = .inl (xT cx 0, 62, .inl (upd (upd fn (((31 * lvl) + 0) + j) ((nI (Lk L j)))) (((31 * lvl) + 18) + j) ((nI 1)))) := by rw [eμ3, va_up_self]
    have h141_3 := (congrFun eμ3 141).trans ((va_up_ne _ _ (by omega)).trans h141_2)
    have h142_3 := (congrFun eμ3 142).trans ((va_up_ne _ _ (by omega)).trans h142_2)
    refine lv_aload_n hx hb dX5_buildOn_55 rfl (lv_at hl 1 rfl) ?_
    refine nv_get F hW (by omega) h136_3 rfl iX5 2 (by decide) tw_631 rfl dX5_buildOn_56 ?_
    refine lv_iload_n hx hb dX5_buildOn_59 rfl (lv_at hl 0 rfl) ?_
    refine lv_bipush (v := nI 24) hx hb dX5_buildOn_60 (by decide) ?_
    refine nv_add F dX5_buildOn_62 ?_
    refine lv_iload_n hx hb dX5_buildOn_63 rfl (lv_at hl 3 rfl) ?_
    refine nv_add F dX5_buildOn_64 ?_
    refine lv_aload_n hx hb dX5_buildOn_65 rfl (lv_at hl 1 rfl) ?_
    refine nv_get F hW (by omega) h136_3 rfl iX5 2 (by decide) tw_631 rfl dX5_buildOn_66 ?_
    refine lv_iload_n hx hb dX5_buildOn_69 rfl (lv_at hl 0 rfl) ?_
    refine lv_bipush (v := nI 6) hx hb dX5_buildOn_70 (by decide) ?_
    refine nv_add F dX5_buildOn_72 ?_
    refine lv_iload_n hx hb dX5_buildOn_73 rfl (lv_at hl 3 rfl) ?_
    refine nv_add F dX5_buildOn_74 ?_
    refine nv_ialdN (x := ((nI (Ls L j)))) F hW (by omega) h138_3 (by omega) (by decide) (by rw [upd_ne (by omega), upd_ne (by omega)]; exact (hv.1 j hj).2.1) dX5_buildOn_75 ?_
    refine nv_iastN F hW (by omega) h138_3 (by omega) (by decide) dX5_buildOn_76 (fun H locs hW => ?_)
    obtain ⟨μ4, eμ4⟩ : ∃ zz9 : ME, zz9 = va_up μ3 138 (.inl (xT cx 0, 62, .inl (upd (upd (upd fn (((31 * lvl) + 0) + j) ((nI (Lk L j)))) (((31 * lvl) + 18) + j) ((nI 1))) (((31 * lvl) + 24) + j) ((nI (Ls L j)))))) := ⟨_, rfl⟩
    have hW : St cx s μ4 H locs := by rw [eμ4]; exact hW
    have h136_4 := (congrFun eμ4 136).trans ((va_up_ne _ _ (by omega)).trans h136_3)
    have h137_4 := (congrFun eμ4 137).trans ((va_up_ne _ _ (by omega)).trans h137_3)
    have h138_4 : μ4 138 = .inl (xT cx 0, 62, .inl (upd (upd (upd fn (((31 * lvl) + 0) + j) ((nI (Lk L j)))) (((31 * lvl) + 18) + j) ((nI 1))) (((31 * lvl) + 24) + j) ((nI (Ls L j))))) := by rw [eμ4, va_up_self]
    have h141_4 := (congrFun eμ4 141).trans ((va_up_ne _ _ (by omega)).trans h141_3)
    have h142_4 := (congrFun eμ4 142).trans ((va_up_ne _ _ (by omega)).trans h142_3)
    exact rt_v F hr hlk hW ⟨_, _, _, _, g138, h138_4, h141_4, h142_4, fun z h1 h2 h3 => (by rw [eμ4, va_up_ne _ _ (by omega)]; rw [eμ3, va_up_ne _ _ (by omega)]; rw [eμ2, va_up_ne _ _ (by omega)]), fun z hz => by rw [upd_ne (by omega), upd_ne (by omega), upd_ne (by omega)], lv_raise hv hn6 hj hc9 (by first | (rw [if_pos (by omega)]; done) | (rw [if_neg (by omega)]; done))⟩ dX5_buildOn_77
  · skip
    refine lv_iconst (v := nI 0) hx hb dX5_buildOn_28 (by decide) ?_
    refine lv_goto (tgt := 42) hx hb dX5_buildOn_29 (by decide) ?_
    refine nv_iastN F hW (by omega) g138 (by omega) (by decide) dX5_buildOn_42 (fun H locs hW => ?_)
    obtain ⟨μ5, eμ5⟩ : ∃ zz9 : ME, zz9 = va_up μ 138 (.inl (xT cx 0, 62, .inl (upd fn (((31 * lvl) + 0) + j) ((nI 0))))) := ⟨_, rfl⟩
    have hW : St cx s μ5 H locs := by rw [eμ5]; exact hW
    have h136_5 := (congrFun eμ5 136).trans ((va_up_ne _ _ (by omega)).trans g136)
    have h137_5 := (congrFun eμ5 137).trans ((va_up_ne _ _ (by omega)).trans g137)
    have h138_5 : μ5 138 = .inl (xT cx 0, 62, .inl (upd fn (((31 * lvl) + 0) + j) ((nI 0)))) := by rw [eμ5, va_up_self]
    have h141_5 := (congrFun eμ5 141).trans ((va_up_ne _ _ (by omega)).trans g141)
    have h142_5 := (congrFun eμ5 142).trans ((va_up_ne _ _ (by omega)).trans g142)
    refine lv_aload_n hx hb dX5_buildOn_43 rfl (lv_at hl 1 rfl) ?_
    refine nv_get F hW (by omega) h136_5 rfl iX5 2 (by decide) tw_631 rfl dX5_buildOn_44 ?_
    refine lv_iload_n hx hb dX5_buildOn_47 rfl (lv_at hl 0 rfl) ?_
    refine lv_bipush (v := nI 18) hx hb dX5_buildOn_48 (by decide) ?_
    refine nv_add F dX5_buildOn_50 ?_
    refine lv_iload_n hx hb dX5_buildOn_51 rfl (lv_at hl 3 rfl) ?_
    refine nv_add F dX5_buildOn_52 ?_
    refine lv_iconst (v := nI 1) hx hb dX5_buildOn_53 (by decide) ?_
    refine nv_iastN F hW (by omega) h138_5 (by omega) (by decide) dX5_buildOn_54 (fun H locs hW => ?_)
    obtain ⟨μ6, eμ6⟩ : ∃ zz9 : ME, zz9 = va_up μ5 138 (.inl (xT cx 0, 62, .inl (upd (upd fn (((31 * lvl) + 0) + j) ((nI 0))) (((31 * lvl) + 18) + j) ((nI 1))))) := ⟨_, rfl⟩
    have hW : St cx s μ6 H locs := by rw [eμ6]; exact hW
    have h136_6 := (congrFun eμ6 136).trans ((va_up_ne _ _ (by omega)).trans h136_5)
    have h137_6 := (congrFun eμ6 137).trans ((va_up_ne _ _ (by omega)).trans h137_5)
    have h138_6 : μ6 138 = .inl (xT cx 0, 62, .inl (upd (upd fn (((31 * lvl) + 0) + j) ((nI 0))) (((31 * lvl) + 18) + j) ((nI 1)))) := by rw [eμ6, va_up_self]
    have h141_6 := (congrFun eμ6 141).trans ((va_up_ne _ _ (by omega)).trans h141_5)
    have h142_6 := (congrFun eμ6 142).trans ((va_up_ne _ _ (by omega)).trans h142_5)
    refine lv_aload_n hx hb dX5_buildOn_55 rfl (lv_at hl 1 rfl) ?_
    refine nv_get F hW (by omega) h136_6 rfl iX5 2 (by decide) tw_631 rfl dX5_buildOn_56 ?_
    refine lv_iload_n hx hb dX5_buildOn_59 rfl (lv_at hl 0 rfl) ?_
    refine lv_bipush (v := nI 24) hx hb dX5_buildOn_60 (by decide) ?_
    refine nv_add F dX5_buildOn_62 ?_
    refine lv_iload_n hx hb dX5_buildOn_63 rfl (lv_at hl 3 rfl) ?_
    refine nv_add F dX5_buildOn_64 ?_
    refine lv_aload_n hx hb dX5_buildOn_65 rfl (lv_at hl 1 rfl) ?_
    refine nv_get F hW (by omega) h136_6 rfl iX5 2 (by decide) tw_631 rfl dX5_buildOn_66 ?_
    refine lv_iload_n hx hb dX5_buildOn_69 rfl (lv_at hl 0 rfl) ?_
    refine lv_bipush (v := nI 6) hx hb dX5_buildOn_70 (by decide) ?_
    refine nv_add F dX5_buildOn_72 ?_
    refine lv_iload_n hx hb dX5_buildOn_73 rfl (lv_at hl 3 rfl) ?_
    refine nv_add F dX5_buildOn_74 ?_
    refine nv_ialdN (x := ((nI (Ls L j)))) F hW (by omega) h138_6 (by omega) (by decide) (by rw [upd_ne (by omega), upd_ne (by omega)]; exact (hv.1 j hj).2.1) dX5_buildOn_75 ?_
    refine nv_iastN F hW (by omega) h138_6 (by omega) (by decide) dX5_buildOn_76 (fun H locs hW => ?_)
    obtain ⟨μ7, eμ7⟩ : ∃ zz9 : ME, zz9 = va_up μ6 138 (.inl (xT cx 0, 62, .inl (upd (upd (upd fn (((31 * lvl) + 0) + j) ((nI 0))) (((31 * lvl) + 18) + j) ((nI 1))) (((31 * lvl) + 24) + j) ((nI (Ls L j)))))) := ⟨_, rfl⟩
    have hW : St cx s μ7 H locs := by rw [eμ7]; exact hW
    have h136_7 := (congrFun eμ7 136).trans ((va_up_ne _ _ (by omega)).trans h136_6)
    have h137_7 := (congrFun eμ7 137).trans ((va_up_ne _ _ (by omega)).trans h137_6)
    have h138_7 : μ7 138 = .inl (xT cx 0, 62, .inl (upd (upd (upd fn (((31 * lvl) + 0) + j) ((nI 0))) (((31 * lvl) + 18) + j) ((nI 1))) (((31 * lvl) + 24) + j) ((nI (Ls L j))))) := by rw [eμ7, va_up_self]
    have h141_7 := (congrFun eμ7 141).trans ((va_up_ne _ _ (by omega)).trans h141_6)
    have h142_7 := (congrFun eμ7 142).trans ((va_up_ne _ _ (by omega)).trans h142_6)
    exact rt_v F hr hlk hW ⟨_, _, _, _, g138, h138_7, h141_7, h142_7, fun z h1 h2 h3 => (by rw [eμ7, va_up_ne _ _ (by omega)]; rw [eμ6, va_up_ne _ _ (by omega)]; rw [eμ5, va_up_ne _ _ (by omega)]), fun z hz => by rw [upd_ne (by omega), upd_ne (by omega), upd_ne (by omega)], lv_raise hv hn6 hj hc9 (by first | (rw [if_pos (by omega)]; done) | (rw [if_neg (by omega)]; done))⟩ dX5_buildOn_77

set_option maxHeartbeats 4000000 in
set_option maxRecDepth 100000 in
theorem x_build {cx : CX} (hI : xI cx) (l : Launch) {μ : ME} {S : AS} {B : Nat} {Tr : (Nat → Int32) → Prop} (hN : 149 ≤ xN cx) (hX : modX cx μ S Tr) (hA : aok S B) (hMo : mok S) (hB : B < 800000) (h : Int32) : MT cx l yX5_build cX5_build 2 (some .int) 2 46 [.ref (xa cx 136), .int h] μ (Ei cx (r_build S h) (fun μ1 => modX cx μ1 (s_build S h) (fun _ => True) ∧ off 136 13 μ μ1)) := by
  refine mt_of hI (by decide) (Nat.le_of_ble_eq_true rfl) ?_
  intro p e s m below meth c ls F hr hlk hW hl
  have hx := F.1.1
  have hb := F.1.2.1
  have hts := F.1.2.2.2.2
  obtain ⟨rh, nx, f1, fn, frd, ft, fo, fa, frw, fh, fu, fb, fz, fkp, g136, g137, g138, g139, g140, g141, g142, g143, g144, g145, g146, g147, g148, hg, hv, ht, hnx, hrw, hse, hkp, hTr⟩ := id hX
  have hk := hA.2.1
  have hn6 := hk.1
  have hk4 := hk.2.2.2.1
  have hU := lok_U hk
  have hV0 := modX_V0 hX
  have hl : lv_has ls 2 [(0, .ref (xa cx 136)), (1, .int h)] := hl
  refine lv_aload_n hx hb dX5_build_0 rfl (lv_at hl 0 rfl) ?_
  refine lv_iload_n hx hb dX5_build_1 rfl (lv_at hl 1 rfl) ?_
  refine cl_ip (cl_run (rest := []) F hW e_X5_91 (m_isHouse hI l hN hV0 hk (by omega) (by omega) h) ⟨Nat.le_of_ble_eq_true rfl, Nat.le_of_ble_eq_true rfl⟩ (by omega) g136 rfl rfl rfl hl (Nat.le_of_ble_eq_true rfl) dX5_build_2 ⟨Nat.zero_le _, Nat.zero_le _⟩) hW (fun H locs hW => ?_)
  refine nv_bne (tgt := 10) F dX5_build_5 (by decide) (fun c_1 => ?_) (fun c_1 => ?_)
  · skip
    obtain ⟨j, hj, rfl⟩ := inR_of c_1 (by omega)
    refine lv_aload_n hx hb dX5_build_10 rfl (lv_at hl 0 rfl) ?_
    refine nv_get F hW (by omega) g136 rfl iX5 2 (by decide) tw_631 rfl dX5_build_11 ?_
    refine lv_bipush (v := nI 18) hx hb dX5_build_14 (by decide) ?_
    refine lv_iload_n hx hb dX5_build_16 rfl (lv_at hl 1 rfl) ?_
    refine nv_add F dX5_build_17 ?_
    refine nv_ialdN (x := ((b2 (lst (AL S) j)))) F hW (by omega) g138 (by omega) (by decide) ((hv.1 j (by omega)).2.2.2.1.trans (b2_n _).symm) dX5_build_18 ?_
    refine lv_iconst (v := nI 1) hx hb dX5_build_19 (by decide) ?_
    refine nv_b1ne (tgt := 26) F dX5_build_20 (by decide) (fun c_2 => ?_) (fun c_2 => ?_)
    · skip
      refine lv_aload_n hx hb dX5_build_26 rfl (lv_at hl 0 rfl) ?_
      refine cl_v (cl_run (rest := []) F hW e_X5_108 (m_keepAct hI l hN hX hA hMo hB) ⟨Nat.le_of_ble_eq_true rfl, Nat.le_of_ble_eq_true rfl⟩ (by omega) g136 rfl rfl rfl hl (Nat.le_of_ble_eq_true rfl) dX5_build_27 ⟨Nat.zero_le _, Nat.zero_le _⟩) hW (fun μ3 H locs q_3 hW => ?_)
      obtain ⟨hX_k, ho_k⟩ := q_3
      obtain ⟨rh_k, nx_k, f1_k, fn_k, frd_k, ft_k, fo_k, fa_k, frw_k, fh_k, fu_k, fb_k, fz_k, fkp_k, g136_k, g137_k, g138_k, g139_k, g140_k, g141_k, g142_k, g143_k, g144_k, g145_k, g146_k, g147_k, g148_k, hg_k, hv_k, ht_k, hnx_k, hrw_k, hse_k, hkp_k, hTr_k⟩ := id hX_k
      have g136_k : μ3 136 = .inr (5, [.int (nI (Ln (AL S))), .ref (xa cx 137), .ref (xa cx 138), .ref (xa cx 139), .int rh_k, .ref (xa cx 140), .int (nI (An S)), .ref (xa cx 141), .ref (xa cx 142), .int (nI (min (Az S + 1) 14)), .int (nI nx_k), .ref (xa cx 143), .int (nI (Ay S)), .ref (xa cx 144), .ref (xa cx 145), .ref (xa cx 146), .long (Ad S), .ref (xa cx 147), .ref (xa cx 148)]) := g136_k
      have hv_k : lv fn_k 0 (AL S) := hv_k
      have hV0_k := modX_V0 hX_k
      have hV0_k : mdV cx μ3 0 (AL S) := hV0_k
      refine lv_aload_n hx hb dX5_build_30 rfl (lv_at hl 0 rfl) ?_
      refine lv_iconst (v := nI 0) hx hb dX5_build_31 (by decide) ?_
      refine lv_iload_n hx hb dX5_build_32 rfl (lv_at hl 1 rfl) ?_
      refine cl_v (cl_run (rest := []) F hW e_X5_128 (m_buildOn hI l hN hV0_k hk (by omega) (by omega) j hj (by unfold canR; rw [decide_eq_true hj, ‹lst (AL S) j = false›]; rfl)) ⟨Nat.le_of_ble_eq_true rfl, Nat.le_of_ble_eq_true rfl⟩ (by omega) g136_k rfl rfl rfl hl (Nat.le_of_ble_eq_true rfl) dX5_build_33 ⟨Nat.zero_le _, Nat.zero_le _⟩) hW (fun μ4 H locs q_4 hW => ?_)
      have hXn := modX_lv0 hX_k shp_raiseL q_4
      have hon := lvP_off q_4
      obtain ⟨rh_b, nx_b, f1_b, fn_b, frd_b, ft_b, fo_b, fa_b, frw_b, fh_b, fu_b, fb_b, fz_b, fkp_b, g136_b, g137_b, g138_b, g139_b, g140_b, g141_b, g142_b, g143_b, g144_b, g145_b, g146_b, g147_b, g148_b, hg_b, hv_b, ht_b, hnx_b, hrw_b, hse_b, hkp_b, hTr_b⟩ := id hXn
      have g136_b : μ4 136 = .inr (5, [.int (nI (Ln (raiseL (AL S) j))), .ref (xa cx 137), .ref (xa cx 138), .ref (xa cx 139), .int rh_b, .ref (xa cx 140), .int (nI (An S)), .ref (xa cx 141), .ref (xa cx 142), .int (nI (min (Az S + 1) 14)), .int (nI nx_b), .ref (xa cx 143), .int (nI (Ay S)), .ref (xa cx 144), .ref (xa cx 145), .ref (xa cx 146), .long (Ad S), .ref (xa cx 147), .ref (xa cx 148)]) := g136_b
      refine lv_aload_n hx hb dX5_build_36 rfl (lv_at hl 0 rfl) ?_
      refine nv_get F hW (by omega) g136_b rfl iX5 2 (by decide) tw_631 rfl dX5_build_37 ?_
      refine lv_bipush (v := nI 6) hx hb dX5_build_40 (by decide) ?_
      refine lv_iload_n hx hb dX5_build_42 rfl (lv_at hl 1 rfl) ?_
      refine nv_add F dX5_build_43 ?_
      refine nv_ialdN (x := ((nI (Ls (AL S) j)))) F hW (by omega) g138_b (by omega) (by decide) (by have q9 := (hv_b.1 j (by show j < Ln (raiseL (AL S) j); rw [raise_n]; exact hj)).2.1; have q9 : _ = nI (Ls (raiseL (AL S) j) j) := q9; rw [raise_s] at q9; exact q9) dX5_build_44 ?_
      exact rt_ie F hr hlk hW (by unfold r_build; rw [inR_j hj (by omega), if_pos rfl, nI_clamp (by omega), ‹lst (AL S) j = _›]; rfl) ⟨by unfold s_build; rw [inR_j hj (by omega), nI_clamp (by omega), ‹lst (AL S) j = _›]; exact hXn, (fun z hz => by rw [hon z (by omega)]; rw [ho_k z (by omega)])⟩ dX5_build_45
    · skip
      refine lv_bipush (v := (-3)) hx hb dX5_build_23 (by decide) ?_
      exact rt_ie F hr hlk hW (by unfold r_build; rw [inR_j hj (by omega), if_pos rfl, nI_clamp (by omega), ‹lst (AL S) j = _›]; rfl) ⟨by unfold s_build; rw [inR_j hj (by omega), nI_clamp (by omega), ‹lst (AL S) j = _›]; exact (modX_tr hX (fun _ _ => trivial)), off_rf⟩ dX5_build_25
  · skip
    refine lv_iconst (v := (-1)) hx hb dX5_build_8 (by decide) ?_
    exact rt_ie F hr hlk hW (by unfold r_build; rw [‹inR h (Ln (AL S)) = false›]; rfl) ⟨by unfold s_build; rw [‹inR h (Ln (AL S)) = false›]; exact (modX_tr hX (fun _ _ => trivial)), off_rf⟩ dX5_build_9

set_option maxHeartbeats 4000000 in
set_option maxRecDepth 100000 in
theorem x_undo {cx : CX} (hI : xI cx) (l : Launch) {μ : ME} {S : AS} {B : Nat} {Tr : (Nat → Int32) → Prop} (hN : 149 ≤ xN cx) (hX : modX cx μ S Tr) (hA : aok S B) (hMo : mok S) (hB : B < 800000) : MT cx l yX5_undo cX5_undo 2 (some .int) 0 0 [.ref (xa cx 136)] μ (Ei cx (r_undo S) (fun μ1 => modX cx μ1 (s_undo S) (fun _ => True) ∧ off 136 13 μ μ1)) := by
  refine mt_of hI (by decide) (Nat.le_of_ble_eq_true rfl) ?_
  intro p e s m below meth c ls F hr hlk hW hl
  have hx := F.1.1
  have hb := F.1.2.1
  have hts := F.1.2.2.2.2
  obtain ⟨rh, nx, f1, fn, frd, ft, fo, fa, frw, fh, fu, fb, fz, fkp, g136, g137, g138, g139, g140, g141, g142, g143, g144, g145, g146, g147, g148, hg, hv, ht, hnx, hrw, hse, hkp, hTr⟩ := id hX
  have hk := hA.2.1
  have hn6 := hk.1
  have hk4 := hk.2.2.2.1
  have hU := lok_U hk
  have hV0 := modX_V0 hX
  have hl : lv_has ls 2 [(0, .ref (xa cx 136))] := hl
  refine lv_aload_n hx hb dX5_undo_0 rfl (lv_at hl 0 rfl) ?_
  refine nv_get F hW (by omega) g136 rfl iX5 9 (by decide) tw_638 rfl dX5_undo_1 ?_
  refine nv_zne (tgt := 10) F (by have := hA.2.2.1.1; omega) dX5_undo_4 (by decide) (fun c_1 => ?_) (fun c_1 => ?_)
  · skip
    refine lv_aload_n hx hb dX5_undo_10 rfl (lv_at hl 0 rfl) ?_
    refine lv_dup hx hb dX5_undo_11 rfl ?_
    refine nv_get F hW (by omega) g136 rfl iX5 9 (by decide) tw_638 rfl dX5_undo_12 ?_
    refine lv_iconst (v := nI 1) hx hb dX5_undo_15 (by decide) ?_
    refine nv_sub F (by omega) dX5_undo_16 ?_
    refine nv_put F hW (by omega) g136 rfl iX5 tyX5 tyX5_ok nmX5 9 (by decide) tw_638 rfl rfl rfl (Nat.le_of_ble_eq_true rfl) dX5_undo_17 (fun H locs hW => ?_)
    obtain ⟨μ2, eμ2⟩ : ∃ zz9 : ME, zz9 = va_up μ 136 (.inr (5, [.int (nI (Ln (AL S))), .ref (xa cx 137), .ref (xa cx 138), .ref (xa cx 139), .int rh, .ref (xa cx 140), .int (nI (An S)), .ref (xa cx 141), .ref (xa cx 142), .int (nI ((Az S) - 1)), .int (nI nx), .ref (xa cx 143), .int (nI (Ay S)), .ref (xa cx 144), .ref (xa cx 145), .ref (xa cx 146), .long (Ad S), .ref (xa cx 147), .ref (xa cx 148)])) := ⟨_, rfl⟩
    have hW : St cx s μ2 H locs := by rw [eμ2]; exact hW
    have h136_2 : μ2 136 = .inr (5, [.int (nI (Ln (AL S))), .ref (xa cx 137), .ref (xa cx 138), .ref (xa cx 139), .int rh, .ref (xa cx 140), .int (nI (An S)), .ref (xa cx 141), .ref (xa cx 142), .int (nI ((Az S) - 1)), .int (nI nx), .ref (xa cx 143), .int (nI (Ay S)), .ref (xa cx 144), .ref (xa cx 145), .ref (xa cx 146), .long (Ad S), .ref (xa cx 147), .ref (xa cx 148)]) := by rw [eμ2, va_up_self]
    have h137_2 := (congrFun eμ2 137).trans ((va_up_ne _ _ (by omega)).trans g137)
    have h138_2 := (congrFun eμ2 138).trans ((va_up_ne _ _ (by omega)).trans g138)
    have h139_2 := (congrFun eμ2 139).trans ((va_up_ne _ _ (by omega)).trans g139)
    have h140_2 := (congrFun eμ2 140).trans ((va_up_ne _ _ (by omega)).trans g140)
    have h141_2 := (congrFun eμ2 141).trans ((va_up_ne _ _ (by omega)).trans g141)
    have h142_2 := (congrFun eμ2 142).trans ((va_up_ne _ _ (by omega)).trans g142)
    have h143_2 := (congrFun eμ2 143).trans ((va_up_ne _ _ (by omega)).trans g143)
    have h144_2 := (congrFun eμ2 144).trans ((va_up_ne _ _ (by omega)).trans g144)
    have h145_2 := (congrFun eμ2 145).trans ((va_up_ne _ _ (by omega)).trans g145)
    have h146_2 := (congrFun eμ2 146).trans ((va_up_ne _ _ (by omega)).trans g146)
    have h147_2 := (congrFun eμ2 147).trans ((va_up_ne _ _ (by omega)).trans g147)
    have h148_2 := (congrFun eμ2 148).trans ((va_up_ne _ _ (by omega)).trans g148)
    refine lv_aload_n hx hb dX5_undo_20 rfl (lv_at hl 0 rfl) ?_
    refine lv_aload_n hx hb dX5_undo_21 rfl (lv_at hl 0 rfl) ?_
    refine nv_get F hW (by omega) h136_2 rfl iX5 10 (by decide) tw_639 rfl dX5_undo_22 ?_
    refine lv_bipush (v := nI 13) hx hb dX5_undo_25 (by decide) ?_
    refine nv_add F dX5_undo_27 ?_
    refine lv_bipush (v := nI 14) hx hb dX5_undo_28 (by decide) ?_
    refine nv_rem F (by omega) (by omega) (by omega) dX5_undo_30 ?_
    refine nv_put F hW (by omega) h136_2 rfl iX5 tyX5 tyX5_ok nmX5 10 (by decide) tw_639 rfl rfl rfl (Nat.le_of_ble_eq_true rfl) dX5_undo_31 (fun H locs hW => ?_)
    obtain ⟨μ3, eμ3⟩ : ∃ zz9 : ME, zz9 = va_up μ2 136 (.inr (5, [.int (nI (Ln (AL S))), .ref (xa cx 137), .ref (xa cx 138), .ref (xa cx 139), .int rh, .ref (xa cx 140), .int (nI (An S)), .ref (xa cx 141), .ref (xa cx 142), .int (nI ((Az S) - 1)), .int (nI ((nx + 13) % 14)), .ref (xa cx 143), .int (nI (Ay S)), .ref (xa cx 144), .ref (xa cx 145), .ref (xa cx 146), .long (Ad S), .ref (xa cx 147), .ref (xa cx 148)])) := ⟨_, rfl⟩
    have hW : St cx s μ3 H locs := by rw [eμ3]; exact hW
    have h136_3 : μ3 136 = .inr (5, [.int (nI (Ln (AL S))), .ref (xa cx 137), .ref (xa cx 138), .ref (xa cx 139), .int rh, .ref (xa cx 140), .int (nI (An S)), .ref (xa cx 141), .ref (xa cx 142), .int (nI ((Az S) - 1)), .int (nI ((nx + 13) % 14)), .ref (xa cx 143), .int (nI (Ay S)), .ref (xa cx 144), .ref (xa cx 145), .ref (xa cx 146), .long (Ad S), .ref (xa cx 147), .ref (xa cx 148)]) := by rw [eμ3, va_up_self]
    have h137_3 := (congrFun eμ3 137).trans ((va_up_ne _ _ (by omega)).trans h137_2)
    have h138_3 := (congrFun eμ3 138).trans ((va_up_ne _ _ (by omega)).trans h138_2)
    have h139_3 := (congrFun eμ3 139).trans ((va_up_ne _ _ (by omega)).trans h139_2)
    have h140_3 := (congrFun eμ3 140).trans ((va_up_ne _ _ (by omega)).trans h140_2)
    have h141_3 := (congrFun eμ3 141).trans ((va_up_ne _ _ (by omega)).trans h141_2)
    have h142_3 := (congrFun eμ3 142).trans ((va_up_ne _ _ (by omega)).trans h142_2)
    have h143_3 := (congrFun eμ3 143).trans ((va_up_ne _ _ (by omega)).trans h143_2)
    have h144_3 := (congrFun eμ3 144).trans ((va_up_ne _ _ (by omega)).trans h144_2)
    have h145_3 := (congrFun eμ3 145).trans ((va_up_ne _ _ (by omega)).trans h145_2)
    have h146_3 := (congrFun eμ3 146).trans ((va_up_ne _ _ (by omega)).trans h146_2)
    have h147_3 := (congrFun eμ3 147).trans ((va_up_ne _ _ (by omega)).trans h147_2)
    have h148_3 := (congrFun eμ3 148).trans ((va_up_ne _ _ (by omega)).trans h148_2)
    refine lv_iconst (v := nI 0) hx hb dX5_undo_34 (by decide) ?_
    refine lv_istore_n (lv' := [(1, .int (nI 0)), (0, .ref (xa cx 136))]) hx hb dX5_undo_35 rfl hl (by decide) rfl (fun ls hl => ?_)
    have LOOP : ∀ (d i : Nat) (q : Nat → Int32) (μ1 : ME) (H : Heap) (locs : List Loc) (ls : Array Slot), i + d = 31 → (μ1 138 = .inl (xT cx 0, 62, .inl q)) → (∀ z, ¬ z = 138 → μ1 z = μ3 z) → (∀ z, (z < 0 ∨ 0 + 31 ≤ z) → q z = fn z) → (∀ z, z < i → q (z) = frw (31 * ((nx + 13) % 14) + z)) → St cx s μ1 H locs → lv_has ls 2 [(0, .ref (xa cx 136)), (1, .int (nI i))] → W p l e { frames := 0, cells := 0, slots := 0, locals := 0 } s m [.ref (xa cx 136)].toArray below meth c H locs 0 0 (MQ below (Ei cx (r_undo S) (fun μ1 => modX cx μ1 (s_undo S) (fun _ => True) ∧ off 136 13 μ μ1)) [.ref (xa cx 136)].toArray s 0 0 (xA cx)) (F0 m 36 ls []) := by
      intro d
      induction d with
      | zero =>
        intro i q μ1 H locs ls hid hq hqo hq0 hq1 hW hl
        have k136 := (hqo 136 (by omega)).trans h136_3
        have k137 := (hqo 137 (by omega)).trans h137_3
        have k139 := (hqo 139 (by omega)).trans h139_3
        have k140 := (hqo 140 (by omega)).trans h140_3
        have k141 := (hqo 141 (by omega)).trans h141_3
        have k142 := (hqo 142 (by omega)).trans h142_3
        have k143 := (hqo 143 (by omega)).trans h143_3
        have k144 := (hqo 144 (by omega)).trans h144_3
        have k145 := (hqo 145 (by omega)).trans h145_3
        have k146 := (hqo 146 (by omega)).trans h146_3
        have k147 := (hqo 147 (by omega)).trans h147_3
        have k148 := (hqo 148 (by omega)).trans h148_3
        refine lv_iload_n hx hb dX5_undo_36 rfl (lv_at hl 1 rfl) ?_
        refine lv_bipush (v := nI 31) hx hb dX5_undo_37 (by decide) ?_
        refine nv_cge (tgt := 68) F (by omega) (by omega) dX5_undo_39 (by decide) (fun c_4 => ?_) (fun c_4 => ?_)
        · skip
          refine lv_aload_n hx hb dX5_undo_68 rfl (lv_at hl 0 rfl) ?_
          refine nv_get F hW (by omega) k136 rfl iX5 9 (by decide) tw_638 rfl dX5_undo_69 ?_
          have hz0 : 0 < Az S := by omega
          have h00 := hMo.1 0 hz0
          have q0 := hrw 0 hz0
          rw [Nat.sub_zero] at q0
          exact rt_ie F hr hlk hW (by unfold r_undo; rw [if_neg (by omega)]) ⟨by unfold s_undo; rw [if_neg (by omega)]; exact ⟨rh, (nx + 13) % 14, f1, q, frd, ft, fo, fa, frw, fh, fu, fb, fz, fkp, by show _ = (.inr (5, [.int (nI (Ln (AP S 0))), .ref (xa cx 137), .ref (xa cx 138), .ref (xa cx 139), .int rh, .ref (xa cx 140), .int (nI (An S)), .ref (xa cx 141), .ref (xa cx 142), .int (nI (Az S - 1)), .int (nI ((nx + 13) % 14)), .ref (xa cx 143), .int (nI (Ay S)), .ref (xa cx 144), .ref (xa cx 145), .ref (xa cx 146), .long (Ad S), .ref (xa cx 147), .ref (xa cx 148)]) : va_E); rw [h00.1]; exact k136, k137, hq, k139, k140, k141, k142, k143, k144, k145, k146, k147, k148, fun z hz => by have hz : z < Ln (AP S 0) := hz; rw [h00.1] at hz; rw [hg z hz]; show _ = nI (Lg (AP S 0) z); rw [h00.2 z hz], lv_move q0 (by show Ln (AP S 0) ≤ 6; rw [h00.1]; exact hn6) (fun z hz => by rw [Nat.zero_add, hq1 z (by omega)]), ht, by omega, fun k hk9 => by have hk9 : k < Az S - 1 := hk9; have q := hrw (k + 1) (by omega); rw [show (nx + 13 - (k + 1)) % 14 = ((nx + 13) % 14 + 13 - k) % 14 by have := hA.2.2.1.1; omega] at q; exact q, hse, hkp, trivial⟩, (fun z hz => by rw [hqo z (by omega)]; rw [eμ3, va_up_ne _ _ (by omega)]; rw [eμ2, va_up_ne _ _ (by omega)])⟩ dX5_undo_72
        · skip
          exact absurd c_4 (by omega)
      | succ d ih =>
        intro i q μ1 H locs ls hid hq hqo hq0 hq1 hW hl
        have k136 := (hqo 136 (by omega)).trans h136_3
        have k137 := (hqo 137 (by omega)).trans h137_3
        have k139 := (hqo 139 (by omega)).trans h139_3
        have k140 := (hqo 140 (by omega)).trans h140_3
        have k141 := (hqo 141 (by omega)).trans h141_3
        have k142 := (hqo 142 (by omega)).trans h142_3
        have k143 := (hqo 143 (by omega)).trans h143_3
        have k144 := (hqo 144 (by omega)).trans h144_3
        have k145 := (hqo 145 (by omega)).trans h145_3
        have k146 := (hqo 146 (by omega)).trans h146_3
        have k147 := (hqo 147 (by omega)).trans h147_3
        have k148 := (hqo 148 (by omega)).trans h148_3
        refine lv_iload_n hx hb dX5_undo_36 rfl (lv_at hl 1 rfl) ?_
        refine lv_bipush (v := nI 31) hx hb dX5_undo_37 (by decide) ?_
        refine nv_cge (tgt := 68) F (by omega) (by omega) dX5_undo_39 (by decide) (fun c_5 => ?_) (fun c_5 => ?_)
        · skip
          exact absurd c_5 (by omega)
        · skip
          refine lv_aload_n hx hb dX5_undo_42 rfl (lv_at hl 0 rfl) ?_
          refine nv_get F hW (by omega) k136 rfl iX5 2 (by decide) tw_631 rfl dX5_undo_43 ?_
          refine lv_iload_n hx hb dX5_undo_46 rfl (lv_at hl 1 rfl) ?_
          refine lv_aload_n hx hb dX5_undo_47 rfl (lv_at hl 0 rfl) ?_
          refine nv_get F hW (by omega) k136 rfl iX5 11 (by decide) tw_640 rfl dX5_undo_48 ?_
          refine lv_bipush (v := nI 31) hx hb dX5_undo_51 (by decide) ?_
          refine lv_aload_n hx hb dX5_undo_53 rfl (lv_at hl 0 rfl) ?_
          refine nv_get F hW (by omega) k136 rfl iX5 10 (by decide) tw_639 rfl dX5_undo_54 ?_
          refine nv_mul F dX5_undo_57 ?_
          refine lv_iload_n hx hb dX5_undo_58 rfl (lv_at hl 1 rfl) ?_
          refine nv_add F dX5_undo_59 ?_
          refine nv_ialdN (x := ((frw ((31 * ((nx + 13) % 14)) + i)))) F hW (by omega) k143 (by omega) (by decide) rfl dX5_undo_60 ?_
          refine nv_iastN F hW (by omega) hq (by omega) (by decide) dX5_undo_61 (fun H locs hW => ?_)
          obtain ⟨μ6, eμ6⟩ : ∃ zz9 : ME, zz9 = va_up μ1 138 (.inl (xT cx 0, 62, .inl (upd q i ((frw ((31 * ((nx + 13) % 14)) + i)))))) := ⟨_, rfl⟩
          have hW : St cx s μ6 H locs := by rw [eμ6]; exact hW
          have h136_6 := (congrFun eμ6 136).trans ((va_up_ne _ _ (by omega)).trans k136)
          have h137_6 := (congrFun eμ6 137).trans ((va_up_ne _ _ (by omega)).trans k137)
          have h138_6 : μ6 138 = .inl (xT cx 0, 62, .inl (upd q i ((frw ((31 * ((nx + 13) % 14)) + i))))) := by rw [eμ6, va_up_self]
          have h139_6 := (congrFun eμ6 139).trans ((va_up_ne _ _ (by omega)).trans k139)
          have h140_6 := (congrFun eμ6 140).trans ((va_up_ne _ _ (by omega)).trans k140)
          have h141_6 := (congrFun eμ6 141).trans ((va_up_ne _ _ (by omega)).trans k141)
          have h142_6 := (congrFun eμ6 142).trans ((va_up_ne _ _ (by omega)).trans k142)
          have h143_6 := (congrFun eμ6 143).trans ((va_up_ne _ _ (by omega)).trans k143)
          have h144_6 := (congrFun eμ6 144).trans ((va_up_ne _ _ (by omega)).trans k144)
          have h145_6 := (congrFun eμ6 145).trans ((va_up_ne _ _ (by omega)).trans k145)
          have h146_6 := (congrFun eμ6 146).trans ((va_up_ne _ _ (by omega)).trans k146)
          have h147_6 := (congrFun eμ6 147).trans ((va_up_ne _ _ (by omega)).trans k147)
          have h148_6 := (congrFun eμ6 148).trans ((va_up_ne _ _ (by omega)).trans k148)
          refine lv_iinc (v := ((nI (i + 1)))) (lv' := [(1, .int (nI (i + 1))), (0, .ref (xa cx 136))]) hx hb dX5_undo_62 hl (k := 1) rfl (nI_add _ _) (by decide) rfl (fun ls hl => ?_)
          refine lv_goto (tgt := 36) hx hb dX5_undo_65 (by decide) ?_
          exact ih (i + 1) _ μ6 _ _ _ (by omega) h138_6 (fun z hz => ((congrFun eμ6 z).trans (va_up_ne _ _ hz)).trans (hqo z hz)) (fun z hz => by rw [upd_ne (by omega)]; exact hq0 z hz) (fun z hz => (Nat.lt_or_ge z i).elim (fun a => by rw [upd_ne (by omega)]; exact hq1 z a) (fun a => by rw [upd_eq (by omega), show z = i by omega])) hW (lv_sub hl [1, 0] rfl)
    exact LOOP 31 0 fn μ3 _ _ _ (by omega) h138_3 (fun _ _ => rfl) (fun _ _ => rfl) (fun z hz => absurd hz (by omega)) hW (lv_sub hl [1, 0] rfl)
  · skip
    refine lv_bipush (v := (-3)) hx hb dX5_undo_7 (by decide) ?_
    exact rt_ie F hr hlk hW (by unfold r_undo; rw [if_pos (by omega)]) ⟨by unfold s_undo; rw [if_pos (by omega)]; exact (modX_tr hX (fun _ _ => trivial)), off_rf⟩ dX5_undo_9

set_option maxHeartbeats 4000000 in
set_option maxRecDepth 100000 in
theorem x_later {cx : CX} (hI : xI cx) (l : Launch) {μ : ME} {S : AS} {B : Nat} {Tr : (Nat → Int32) → Prop} (hN : 149 ≤ xN cx) (hX : modX cx μ S Tr) (hA : aok S B) (hMo : mok S) (hB : B < 800000) (h n w : Int32) : MT cx l yX5_later cX5_later 4 (some .int) 5 118 [.ref (xa cx 136), .int h, .int n, .int w] μ (Ei cx (r_later S h n w) (fun μ1 => modX cx μ1 S (fun _ => True) ∧ off 136 13 μ μ1)) := by
  refine mt_of hI (by decide) (Nat.le_of_ble_eq_true rfl) ?_
  intro p e s m below meth c ls F hr hlk hW hl
  have hx := F.1.1
  have hb := F.1.2.1
  have hts := F.1.2.2.2.2
  obtain ⟨rh, nx, f1, fn, frd, ft, fo, fa, frw, fh, fu, fb, fz, fkp, g136, g137, g138, g139, g140, g141, g142, g143, g144, g145, g146, g147, g148, hg, hv, ht, hnx, hrw, hse, hkp, hTr⟩ := id hX
  have hk := hA.2.1
  have hn6 := hk.1
  have hk4 := hk.2.2.2.1
  have hU := lok_U hk
  have hV0 := modX_V0 hX
  have hl : lv_has ls 4 [(0, .ref (xa cx 136)), (1, .int h), (2, .int n), (3, .int w)] := hl
  refine lv_aload_n hx hb dX5_later_0 rfl (lv_at hl 0 rfl) ?_
  refine lv_iload_n hx hb dX5_later_1 rfl (lv_at hl 1 rfl) ?_
  refine cl_ip (cl_run (rest := []) F hW e_X5_91 (m_isHouse hI l hN hV0 hk (by omega) (by omega) h) ⟨Nat.le_of_ble_eq_true rfl, Nat.le_of_ble_eq_true rfl⟩ (by omega) g136 rfl rfl rfl hl (Nat.le_of_ble_eq_true rfl) dX5_later_2 ⟨Nat.zero_le _, Nat.zero_le _⟩) hW (fun H locs hW => ?_)
  refine nv_bne (tgt := 10) F dX5_later_5 (by decide) (fun c_1 => ?_) (fun c_1 => ?_)
  · skip
    obtain ⟨j, hj, rfl⟩ := inR_of c_1 (by omega)
    refine lv_iload_n hx hb dX5_later_10 rfl (lv_at hl 2 rfl) ?_
    refine lv_i2l hx hb dX5_later_11 rfl ?_
    refine lv_lconst (v := lN 0) hx hb dX5_later_12 (by decide) ?_
    refine lv_ldc2 (v := lN 30) hx hb F.1.2.2.2.1 (hts _ tw_802) dX5_later_13 ?_
    refine cl_ip (cl_runS (rest := []) F hW e_X5_49 (m_in hI l ((n.toInt64)) ((lN 0)) ((lN 30))) ⟨Nat.le_of_ble_eq_true rfl, Nat.le_of_ble_eq_true rfl⟩ rfl rfl hl (Nat.le_of_ble_eq_true rfl) dX5_later_16 ⟨Nat.zero_le _, Nat.zero_le _⟩) hW (fun H locs hW => ?_)
    refine nv_top (y := ((b2 (inR n 31)))) (congrArg b2 (inL_R (by decide))) ?_
    refine nv_beq (tgt := 32) F dX5_later_19 (by decide) (fun c_2 => ?_) (fun c_2 => ?_)
    · skip
      refine lv_bipush (v := (-2)) hx hb dX5_later_32 (by decide) ?_
      exact rt_ie F hr hlk hW (by unfold r_later; rw [inR_j hj (by omega), if_pos rfl]; first | (rw [‹inR n 31 = false›]; rfl) | (rw [‹halI w = false›, Bool.and_false]; rfl)) ⟨(modX_tr hX (fun _ _ => trivial)), off_rf⟩ dX5_later_34
    · skip
      refine lv_iload_n hx hb dX5_later_22 rfl (lv_at hl 3 rfl) ?_
      refine lv_i2l hx hb dX5_later_23 rfl ?_
      refine lv_lconst (v := lN 0) hx hb dX5_later_24 (by decide) ?_
      refine lv_lconst (v := lN 1) hx hb dX5_later_25 (by decide) ?_
      refine cl_ip (cl_runS (rest := []) F hW e_X5_49 (m_in hI l ((w.toInt64)) ((lN 0)) ((lN 1))) ⟨Nat.le_of_ble_eq_true rfl, Nat.le_of_ble_eq_true rfl⟩ rfl rfl hl (Nat.le_of_ble_eq_true rfl) dX5_later_26 ⟨Nat.zero_le _, Nat.zero_le _⟩) hW (fun H locs hW => ?_)
      refine nv_top (y := ((b2 (halI w)))) (congrArg b2 (inL_half _)) ?_
      refine nv_bne (tgt := 35) F dX5_later_29 (by decide) (fun c_3 => ?_) (fun c_3 => ?_)
      · skip
        obtain ⟨m9, hm9, rfl⟩ := inR_of (show inR n 31 = true by assumption) (by omega)
        refine lv_aload_n hx hb dX5_later_35 rfl (lv_at hl 0 rfl) ?_
        refine cl_v (cl_run (rest := []) F hW e_X5_134 (m_layTrial hI l hN hX hA hMo hB) ⟨Nat.le_of_ble_eq_true rfl, Nat.le_of_ble_eq_true rfl⟩ (by omega) g136 rfl rfl rfl hl (Nat.le_of_ble_eq_true rfl) dX5_later_36 ⟨Nat.zero_le _, Nat.zero_le _⟩) hW (fun μ4 H locs q_4 hW => ?_)
        obtain ⟨hX_4, ho_4⟩ := q_4
        obtain ⟨rh_4, nx_4, f1_4, fn_4, frd_4, ft_4, fo_4, fa_4, frw_4, fh_4, fu_4, fb_4, fz_4, fkp_4, g136_4, g137_4, g138_4, g139_4, g140_4, g141_4, g142_4, g143_4, g144_4, g145_4, g146_4, g147_4, g148_4, hg_4, hv_4, ht_4, hnx_4, hrw_4, hse_4, hkp_4, hTr_4⟩ := id hX_4
        have hs_4 : shp (AL S) (AL S) := shp_rf
        have hkT_4 := hk
        have hn_4 : Ln (AL S) = Ln (AL S) := hs_4.1
        have hV0_4 := modX_V0 hX_4
        have hV1_4 := modX_V1 hX_4 hs_4
        refine lv_aload_n hx hb dX5_later_39 rfl (lv_at hl 0 rfl) ?_
        refine lv_iload_n hx hb dX5_later_40 rfl (lv_at hl 2 rfl) ?_
        refine cl_ie (cl_run (rest := []) F hW e_X5_137 (m_goOn hI l hN hX_4 hA hMo hB hs_4 hkT_4 (by omega) m9 (by omega)) ⟨Nat.le_of_ble_eq_true rfl, Nat.le_of_ble_eq_true rfl⟩ (by omega) g136_4 rfl rfl rfl hl (Nat.le_of_ble_eq_true rfl) dX5_later_41 ⟨Nat.zero_le _, Nat.zero_le _⟩) hW (fun μ5 H locs q_5 hW => ?_)
        obtain ⟨hX_5, ho_5⟩ := q_5
        obtain ⟨rh_5, nx_5, f1_5, fn_5, frd_5, ft_5, fo_5, fa_5, frw_5, fh_5, fu_5, fb_5, fz_5, fkp_5, g136_5, g137_5, g138_5, g139_5, g140_5, g141_5, g142_5, g143_5, g144_5, g145_5, g146_5, g147_5, g148_5, hg_5, hv_5, ht_5, hnx_5, hrw_5, hse_5, hkp_5, hTr_5⟩ := id hX_5
        have hs_5 : shp (hrs m9 (AL S)) (AL S) := shp_tr (shp_hrs m9) hs_4
        have hkT_5 := lok_hrs hkT_4 m9
        have hn_5 : Ln (hrs m9 (AL S)) = Ln (AL S) := hs_5.1
        have hV0_5 := modX_V0 hX_5
        have hV1_5 := modX_V1 hX_5 hs_5
        refine lv_pop hx hb dX5_later_44 rfl ?_
        refine lv_iload_n hx hb dX5_later_45 rfl (lv_at hl 3 rfl) ?_
        refine lv_if_ne (tgt := 60) hx hb dX5_later_46 (by decide) (fun c_6 => ?_) (fun c_6 => ?_)
        · skip
          refine lv_aload_n hx hb dX5_later_60 rfl (lv_at hl 0 rfl) ?_
          refine lv_iconst (v := nI 1) hx hb dX5_later_61 (by decide) ?_
          refine lv_iload_n hx hb dX5_later_62 rfl (lv_at hl 1 rfl) ?_
          refine cl_ip (cl_run (rest := []) F hW e_X5_99 (m_groundOf hI l hN hV1_5 hkT_5 (by omega) (by omega) j (by rw [hrs_n]; exact hj)) ⟨Nat.le_of_ble_eq_true rfl, Nat.le_of_ble_eq_true rfl⟩ (by omega) g136_5 rfl rfl rfl hl (Nat.le_of_ble_eq_true rfl) dX5_later_63 ⟨Nat.zero_le _, Nat.zero_le _⟩) hW (fun H locs hW => ?_)
          exact rt_ie F hr hlk hW (by unfold r_later; rw [inR_j hj (by omega), if_pos rfl, inR_j hm9 (by omega), ‹halI w = true›, nI_clamp (by omega), nI_clamp (by omega)]; show _ = (if w = nI 0 then _ else _); first | (rw [if_pos (by assumption)]; done) | (rw [if_neg (by assumption)]; done)) ⟨(modX_tr hX_5 (fun _ _ => trivial)), (fun z hz => by rw [ho_5 z (by omega)]; rw [ho_4 z (by omega)])⟩ dX5_later_66
        · skip
          refine lv_aload_n hx hb dX5_later_49 rfl (lv_at hl 0 rfl) ?_
          refine lv_iconst (v := nI 1) hx hb dX5_later_50 (by decide) ?_
          refine lv_bipush (v := nI 24) hx hb dX5_later_51 (by decide) ?_
          refine lv_iload_n hx hb dX5_later_53 rfl (lv_at hl 1 rfl) ?_
          refine cl_ip (cl_run (rest := []) F hW e_X5_80 (m_at24 hI l hN hV1_5 hkT_5 (by omega) (by omega) j (by rw [hrs_n]; exact hj)) ⟨Nat.le_of_ble_eq_true rfl, Nat.le_of_ble_eq_true rfl⟩ (by omega) g136_5 rfl rfl rfl hl (Nat.le_of_ble_eq_true rfl) dX5_later_54 ⟨Nat.zero_le _, Nat.zero_le _⟩) hW (fun H locs hW => ?_)
          refine lv_goto (tgt := 66) hx hb dX5_later_57 (by decide) ?_
          exact rt_ie F hr hlk hW (by unfold r_later; rw [inR_j hj (by omega), if_pos rfl, inR_j hm9 (by omega), ‹halI w = true›, nI_clamp (by omega), nI_clamp (by omega)]; show _ = (if w = nI 0 then _ else _); first | (rw [if_pos (by assumption)]; done) | (rw [if_neg (by assumption)]; done)) ⟨(modX_tr hX_5 (fun _ _ => trivial)), (fun z hz => by rw [ho_5 z (by omega)]; rw [ho_4 z (by omega)])⟩ dX5_later_66
      · skip
        refine lv_bipush (v := (-2)) hx hb dX5_later_32 (by decide) ?_
        exact rt_ie F hr hlk hW (by unfold r_later; rw [inR_j hj (by omega), if_pos rfl]; first | (rw [‹inR n 31 = false›]; rfl) | (rw [‹halI w = false›, Bool.and_false]; rfl)) ⟨(modX_tr hX (fun _ _ => trivial)), off_rf⟩ dX5_later_34
  · skip
    refine lv_iconst (v := (-1)) hx hb dX5_later_8 (by decide) ?_
    exact rt_ie F hr hlk hW (by unfold r_later; rw [‹inR h (Ln (AL S)) = false›]; rfl) ⟨(modX_tr hX (fun _ _ => trivial)), off_rf⟩ dX5_later_9

set_option maxHeartbeats 4000000 in
set_option maxRecDepth 100000 in
theorem x_standing {cx : CX} (hI : xI cx) (l : Launch) {μ : ME} {S : AS} {B : Nat} {Tr : (Nat → Int32) → Prop} (hN : 149 ≤ xN cx) (hX : modX cx μ S Tr) (hA : aok S B) (hMo : mok S) (hB : B < 800000) (n : Int32) : MT cx l yX5_standing cX5_standing 2 (some .int) 5 118 [.ref (xa cx 136), .int n] μ (Ei cx (r_standing S n) (fun μ1 => modX cx μ1 S (fun _ => True) ∧ off 136 13 μ μ1)) := by
  refine mt_of hI (by decide) (Nat.le_of_ble_eq_true rfl) ?_
  intro p e s m below meth c ls F hr hlk hW hl
  have hx := F.1.1
  have hb := F.1.2.1
  have hts := F.1.2.2.2.2
  obtain ⟨rh, nx, f1, fn, frd, ft, fo, fa, frw, fh, fu, fb, fz, fkp, g136, g137, g138, g139, g140, g141, g142, g143, g144, g145, g146, g147, g148, hg, hv, ht, hnx, hrw, hse, hkp, hTr⟩ := id hX
  have hk := hA.2.1
  have hn6 := hk.1
  have hk4 := hk.2.2.2.1
  have hU := lok_U hk
  have hV0 := modX_V0 hX
  have hl : lv_has ls 2 [(0, .ref (xa cx 136)), (1, .int n)] := hl
  refine lv_iload_n hx hb dX5_standing_0 rfl (lv_at hl 1 rfl) ?_
  refine lv_i2l hx hb dX5_standing_1 rfl ?_
  refine lv_lconst (v := lN 0) hx hb dX5_standing_2 (by decide) ?_
  refine lv_ldc2 (v := lN 30) hx hb F.1.2.2.2.1 (hts _ tw_802) dX5_standing_3 ?_
  refine cl_ip (cl_runS (rest := []) F hW e_X5_49 (m_in hI l ((n.toInt64)) ((lN 0)) ((lN 30))) ⟨Nat.le_of_ble_eq_true rfl, Nat.le_of_ble_eq_true rfl⟩ rfl rfl hl (Nat.le_of_ble_eq_true rfl) dX5_standing_6 ⟨Nat.zero_le _, Nat.zero_le _⟩) hW (fun H locs hW => ?_)
  refine nv_top (y := ((b2 (inR n 31)))) (congrArg b2 (inL_R (by decide))) ?_
  refine nv_bne (tgt := 15) F dX5_standing_9 (by decide) (fun c_1 => ?_) (fun c_1 => ?_)
  · skip
    obtain ⟨m9, hm9, rfl⟩ := inR_of (show inR n 31 = true by assumption) (by omega)
    refine lv_aload_n hx hb dX5_standing_15 rfl (lv_at hl 0 rfl) ?_
    refine cl_v (cl_run (rest := []) F hW e_X5_134 (m_layTrial hI l hN hX hA hMo hB) ⟨Nat.le_of_ble_eq_true rfl, Nat.le_of_ble_eq_true rfl⟩ (by omega) g136 rfl rfl rfl hl (Nat.le_of_ble_eq_true rfl) dX5_standing_16 ⟨Nat.zero_le _, Nat.zero_le _⟩) hW (fun μ2 H locs q_2 hW => ?_)
    obtain ⟨hX_2, ho_2⟩ := q_2
    obtain ⟨rh_2, nx_2, f1_2, fn_2, frd_2, ft_2, fo_2, fa_2, frw_2, fh_2, fu_2, fb_2, fz_2, fkp_2, g136_2, g137_2, g138_2, g139_2, g140_2, g141_2, g142_2, g143_2, g144_2, g145_2, g146_2, g147_2, g148_2, hg_2, hv_2, ht_2, hnx_2, hrw_2, hse_2, hkp_2, hTr_2⟩ := id hX_2
    have hs_2 : shp (AL S) (AL S) := shp_rf
    have hkT_2 := hk
    have hn_2 : Ln (AL S) = Ln (AL S) := hs_2.1
    have hV0_2 := modX_V0 hX_2
    have hV1_2 := modX_V1 hX_2 hs_2
    refine lv_aload_n hx hb dX5_standing_19 rfl (lv_at hl 0 rfl) ?_
    refine lv_iload_n hx hb dX5_standing_20 rfl (lv_at hl 1 rfl) ?_
    refine cl_ie (cl_run (rest := []) F hW e_X5_137 (m_goOn hI l hN hX_2 hA hMo hB hs_2 hkT_2 (by omega) m9 (by omega)) ⟨Nat.le_of_ble_eq_true rfl, Nat.le_of_ble_eq_true rfl⟩ (by omega) g136_2 rfl rfl rfl hl (Nat.le_of_ble_eq_true rfl) dX5_standing_21 ⟨Nat.zero_le _, Nat.zero_le _⟩) hW (fun μ3 H locs q_3 hW => ?_)
    obtain ⟨hX_3, ho_3⟩ := q_3
    obtain ⟨rh_3, nx_3, f1_3, fn_3, frd_3, ft_3, fo_3, fa_3, frw_3, fh_3, fu_3, fb_3, fz_3, fkp_3, g136_3, g137_3, g138_3, g139_3, g140_3, g141_3, g142_3, g143_3, g144_3, g145_3, g146_3, g147_3, g148_3, hg_3, hv_3, ht_3, hnx_3, hrw_3, hse_3, hkp_3, hTr_3⟩ := id hX_3
    have hs_3 : shp (hrs m9 (AL S)) (AL S) := shp_tr (shp_hrs m9) hs_2
    have hkT_3 := lok_hrs hkT_2 m9
    have hn_3 : Ln (hrs m9 (AL S)) = Ln (AL S) := hs_3.1
    have hV0_3 := modX_V0 hX_3
    have hV1_3 := modX_V1 hX_3 hs_3
    refine lv_pop hx hb dX5_standing_24 rfl ?_
    refine lv_aload_n hx hb dX5_standing_25 rfl (lv_at hl 0 rfl) ?_
    refine lv_iconst (v := nI 1) hx hb dX5_standing_26 (by decide) ?_
    refine cl_ip (cl_run (rest := []) F hW e_X5_140 (m_standingOn hI l hN hV1_3 hkT_3 (by omega) (by omega)) ⟨Nat.le_of_ble_eq_true rfl, Nat.le_of_ble_eq_true rfl⟩ (by omega) g136_3 rfl rfl rfl hl (Nat.le_of_ble_eq_true rfl) dX5_standing_27 ⟨Nat.zero_le _, Nat.zero_le _⟩) hW (fun H locs hW => ?_)
    exact rt_ie F hr hlk hW (by unfold r_standing; rw [inR_j hm9 (by omega), if_pos rfl, nI_clamp (by omega)]) ⟨(modX_tr hX_3 (fun _ _ => trivial)), (fun z hz => by rw [ho_3 z (by omega)]; rw [ho_2 z (by omega)])⟩ dX5_standing_30
  · skip
    refine lv_bipush (v := (-2)) hx hb dX5_standing_12 (by decide) ?_
    exact rt_ie F hr hlk hW (by unfold r_standing; rw [‹inR n 31 = false›]; rfl) ⟨(modX_tr hX (fun _ _ => trivial)), off_rf⟩ dX5_standing_14
