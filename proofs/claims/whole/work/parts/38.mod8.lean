/-- the numbers of a lane that is being read -/
def rdM (t : Nat → Nat) (n : Nat) (f g : Nat → Int32) (i : Nat) : Prop := (∀ h, h < i → f (0 + h) = nI (tk t h) ∧ f (6 + h) = nI (ts t h) ∧ f (12 + h) = nI (td t h) ∧ f (18 + h) = nI (if tk t h = 4 then 0 else 1) ∧ f (24 + h) = nI (if tk t h = 4 then 0 else ts t h) ∧ g h = nI (tg t h)) ∧ f 30 = nI 0
theorem rdM_step {t : Nat → Nat} {n i : Nat} {f g : Nat → Int32} {a b : Nat} (h : rdM t n f g i) (hi : i < 6) (ha : a = if tk t i = 4 then 0 else 1) (hb : b = if tk t i = 4 then 0 else ts t i) : rdM t n (upd (upd (upd (upd (upd f (0 + i) (nI (tk t i))) (6 + i) (nI (ts t i))) (12 + i) (nI (td t i))) (18 + i) (nI a)) (24 + i) (nI b)) (upd g i (nI (tg t i))) (i + 1) := by
  refine ⟨fun q hq => ?_, ?_⟩
  · by_cases e : q = i
    · subst e
      refine ⟨?_, ?_, ?_, ?_, ?_, ?_⟩
      · rw [upd_ne (by omega), upd_ne (by omega), upd_ne (by omega), upd_ne (by omega), upd_eq rfl]
      · rw [upd_ne (by omega), upd_ne (by omega), upd_ne (by omega), upd_eq rfl]
      · rw [upd_ne (by omega), upd_ne (by omega), upd_eq rfl]
      · rw [upd_ne (by omega), upd_eq rfl, ha]
      · rw [upd_eq rfl, hb]
      · rw [upd_eq rfl]
    · have a := h.1 q (by omega)
      refine ⟨?_, ?_, ?_, ?_, ?_, ?_⟩
      · rw [upd_ne (by omega), upd_ne (by omega), upd_ne (by omega), upd_ne (by omega), upd_ne (by omega)]; exact a.1
      · rw [upd_ne (by omega), upd_ne (by omega), upd_ne (by omega), upd_ne (by omega), upd_ne (by omega)]; exact a.2.1
      · rw [upd_ne (by omega), upd_ne (by omega), upd_ne (by omega), upd_ne (by omega), upd_ne (by omega)]; exact a.2.2.1
      · rw [upd_ne (by omega), upd_ne (by omega), upd_ne (by omega), upd_ne (by omega), upd_ne (by omega)]; exact a.2.2.2.1
      · rw [upd_ne (by omega), upd_ne (by omega), upd_ne (by omega), upd_ne (by omega), upd_ne (by omega)]; exact a.2.2.2.2.1
      · rw [upd_ne (by omega)]; exact a.2.2.2.2.2
  · rw [upd_ne (by omega), upd_ne (by omega), upd_ne (by omega), upd_ne (by omega), upd_ne (by omega)]
    exact h.2
theorem rdM_end {t : Nat → Nat} {n : Nat} {f g : Nat → Int32} (h : rdM t n f g (n / 5)) : lv f 0 (readL t n) := by
  refine ⟨fun q hq => ?_, h.2⟩
  have hq : q < n / 5 := hq
  have a := h.1 q hq
  have e1 : lst (readL t n) q = decide (¬ tk t q = 4) := by
    show (decide (q < n / 5) && (bitsOf (fun h => decide (¬ tk t h = 4)) (n / 5)).testBit q) = _
    rw [testBit_bitsOf, decide_eq_true hq]
    rfl
  refine ⟨a.1, a.2.1, a.2.2.1, ?_, ?_⟩
  · rw [e1]
    refine a.2.2.2.1.trans ?_
    by_cases e : tk t q = 4
    · rw [if_pos e, decide_eq_false (by omega)]; rfl
    · rw [if_neg e, decide_eq_true e]; rfl
  · refine a.2.2.2.2.1.trans ?_
    show _ = nI (if q < n / 5 ∧ ¬ tk t q = 4 then ts t q else 0)
    by_cases e : tk t q = 4
    · rw [if_pos e, if_neg (by omega)]
    · rw [if_neg e, if_pos ⟨hq, e⟩]
theorem rdv0 (t : Nat → Nat) (h : Nat) : rdv t h 0 = tk t h := rfl
theorem rdv1 (t : Nat → Nat) (h : Nat) : rdv t h 1 = ts t h := rfl
theorem rdv2 (t : Nat → Nat) (h : Nat) : rdv t h 2 = tg t h := rfl
theorem rdv3 (t : Nat → Nat) (h : Nat) : rdv t h 3 = td t h := rfl

set_option maxHeartbeats 4000000 in
set_option maxRecDepth 100000 in
theorem x_lane {cx : CX} (hI : xI cx) (l : Launch) {μ : ME} {S : AS} {B : Nat} {Tr : (Nat → Int32) → Prop} (hN : 149 ≤ xN cx) (hX : modX cx μ S Tr) (hA : aok S B) (hMo : mok S) (hB : B < 800000) : MT cx l yX5_lane cX5_lane 2 (some .int) 2 49 [.ref (xa cx 136)] μ (Ei cx (r_lane S) (fun μ1 => modX cx μ1 (s_lane S) (fun _ => True) ∧ off 136 13 μ μ1)) := by
  refine mt_of hI (by decide) (Nat.le_of_ble_eq_true rfl) ?_
  intro p e s m below meth c ls F hr hlk hW hl
  have hx := F.1.1
  have hb := F.1.2.1
  have hts := F.1.2.2.2.2
  obtain ⟨rh, nx, f1, fn, frd, ft, fo, fa, frw, fh, fu, fb, fz, fkp, g136, g137, g138, g139, g140, g141, g142, g143, g144, g145, g146, g147, g148, hg, hv, ht, hnx, hrw, hse, hkp, hTr⟩ := id hX
  have hk := hA.2.1
  have hn6 := hk.1
  have hk4 := hk.2.2.2.1
  have hU := lok_U hk
  have hV0 := modX_V0 hX
  have hl : lv_has ls 2 [(0, .ref (xa cx 136))] := hl
  refine lv_aload_n hx hb dX5_lane_0 rfl (lv_at hl 0 rfl) ?_
  refine cl_ie (cl_run (rest := []) F hW e_X5_70 (m_readText hI l hN hX hA hMo hB) ⟨Nat.le_of_ble_eq_true rfl, Nat.le_of_ble_eq_true rfl⟩ (by omega) g136 rfl rfl rfl hl (Nat.le_of_ble_eq_true rfl) dX5_lane_1 ⟨Nat.zero_le _, Nat.zero_le _⟩) hW (fun μ1 H locs q_1 hW => ?_)
  obtain ⟨hX_r, ho_r, hrk⟩ := q_1
  obtain ⟨rh_r, nx_r, f1_r, fn_r, frd_r, ft_r, fo_r, fa_r, frw_r, fh_r, fu_r, fb_r, fz_r, fkp_r, g136_r, g137_r, g138_r, g139_r, g140_r, g141_r, g142_r, g143_r, g144_r, g145_r, g146_r, g147_r, g148_r, hg_r, hv_r, ht_r, hnx_r, hrw_r, hse_r, hkp_r, hTr_r⟩ := id hX_r
  refine lv_bipush (v := (-9)) hx hb dX5_lane_4 (by decide) ?_
  refine lv_icmp_eq (tgt := 12) hx hb dX5_lane_6 (by decide) (fun c_2 => ?_) (fun c_2 => ?_)
  · skip
    have hfn := fault_none c_2 hA.1.1
    have hn31 := ff_31 hfn.1
    obtain ⟨⟨nx_q, hnx_q, g136_q⟩, qr, g139_q, hqr⟩ := hrk c_2
    have hE9 : faultI (At S) (An S) = -9 := c_2
    refine lv_aload_n hx hb dX5_lane_12 rfl (lv_at hl 0 rfl) ?_
    refine lv_aload_n hx hb dX5_lane_13 rfl (lv_at hl 0 rfl) ?_
    refine nv_get F hW (by omega) g136_q rfl iX5 4 (by decide) tw_633 rfl dX5_lane_14 ?_
    refine nv_put F hW (by omega) g136_q rfl iX5 tyX5 tyX5_ok nmX5 0 (by decide) tw_629 rfl rfl rfl (Nat.le_of_ble_eq_true rfl) dX5_lane_17 (fun H locs hW => ?_)
    obtain ⟨μ3, eμ3⟩ : ∃ zz9 : ME, zz9 = va_up μ1 136 (.inr (5, [.int (nI (An S / 5)), .ref (xa cx 137), .ref (xa cx 138), .ref (xa cx 139), .int (nI (An S / 5)), .ref (xa cx 140), .int (nI (An S)), .ref (xa cx 141), .ref (xa cx 142), .int (nI (Az S)), .int (nI nx_q), .ref (xa cx 143), .int (nI (Ay S)), .ref (xa cx 144), .ref (xa cx 145), .ref (xa cx 146), .long (Ad S), .ref (xa cx 147), .ref (xa cx 148)])) := ⟨_, rfl⟩
    have hW : St cx s μ3 H locs := by rw [eμ3]; exact hW
    have h136_3 : μ3 136 = .inr (5, [.int (nI (An S / 5)), .ref (xa cx 137), .ref (xa cx 138), .ref (xa cx 139), .int (nI (An S / 5)), .ref (xa cx 140), .int (nI (An S)), .ref (xa cx 141), .ref (xa cx 142), .int (nI (Az S)), .int (nI nx_q), .ref (xa cx 143), .int (nI (Ay S)), .ref (xa cx 144), .ref (xa cx 145), .ref (xa cx 146), .long (Ad S), .ref (xa cx 147), .ref (xa cx 148)]) := by rw [eμ3, va_up_self]
    have h137_3 := (congrFun eμ3 137).trans ((va_up_ne _ _ (by omega)).trans g137_r)
    have h138_3 := (congrFun eμ3 138).trans ((va_up_ne _ _ (by omega)).trans g138_r)
    have h139_3 := (congrFun eμ3 139).trans ((va_up_ne _ _ (by omega)).trans g139_q)
    have h140_3 := (congrFun eμ3 140).trans ((va_up_ne _ _ (by omega)).trans g140_r)
    have h141_3 := (congrFun eμ3 141).trans ((va_up_ne _ _ (by omega)).trans g141_r)
    have h142_3 := (congrFun eμ3 142).trans ((va_up_ne _ _ (by omega)).trans g142_r)
    have h143_3 := (congrFun eμ3 143).trans ((va_up_ne _ _ (by omega)).trans g143_r)
    have h144_3 := (congrFun eμ3 144).trans ((va_up_ne _ _ (by omega)).trans g144_r)
    have h145_3 := (congrFun eμ3 145).trans ((va_up_ne _ _ (by omega)).trans g145_r)
    have h146_3 := (congrFun eμ3 146).trans ((va_up_ne _ _ (by omega)).trans g146_r)
    have h147_3 := (congrFun eμ3 147).trans ((va_up_ne _ _ (by omega)).trans g147_r)
    have h148_3 := (congrFun eμ3 148).trans ((va_up_ne _ _ (by omega)).trans g148_r)
    refine lv_iconst (v := nI 0) hx hb dX5_lane_20 (by decide) ?_
    refine lv_istore_n (lv' := [(1, .int (nI 0)), (0, .ref (xa cx 136))]) hx hb dX5_lane_21 rfl hl (by decide) rfl (fun ls hl => ?_)
    have LOOP : ∀ (d i : Nat) (q : Nat → Int32) (μ1 : ME) (H : Heap) (locs : List Loc) (ls : Array Slot), i + d = 31 → (μ1 138 = .inl (xT cx 0, 62, .inl q)) → (∀ z, ¬ z = 138 → μ1 z = μ3 z) → (∀ z, z < i → q z = nI 0) → St cx s μ1 H locs → lv_has ls 2 [(0, .ref (xa cx 136)), (1, .int (nI i))] → W p l e { frames := 2, cells := 0, slots := 0, locals := 49 } s m [.ref (xa cx 136)].toArray below meth c H locs 0 0 (MQ below (Ei cx (r_lane S) (fun μ1 => modX cx μ1 (s_lane S) (fun _ => True) ∧ off 136 13 μ μ1)) [.ref (xa cx 136)].toArray s 0 0 (xA cx)) (F0 m 22 ls []) := by
      intro d
      induction d with
      | zero =>
        intro i q μ1 H locs ls hid hq hqo hq1 hW hl
        have k136 := (hqo 136 (by omega)).trans h136_3
        have k137 := (hqo 137 (by omega)).trans h137_3
        have k139 := (hqo 139 (by omega)).trans h139_3
        have k140 := (hqo 140 (by omega)).trans h140_3
        have k141 := (hqo 141 (by omega)).trans h141_3
        have k142 := (hqo 142 (by omega)).trans h142_3
        have k143 := (hqo 143 (by omega)).trans h143_3
        have k144 := (hqo 144 (by omega)).trans h144_3
        have k145 := (hqo 145 (by omega)).trans h145_3
        have k146 := (hqo 146 (by omega)).trans h146_3
        have k147 := (hqo 147 (by omega)).trans h147_3
        have k148 := (hqo 148 (by omega)).trans h148_3
        refine lv_iload_n hx hb dX5_lane_22 rfl (lv_at hl 1 rfl) ?_
        refine lv_bipush (v := nI 31) hx hb dX5_lane_23 (by decide) ?_
        refine nv_cge (tgt := 41) F (by omega) (by omega) dX5_lane_25 (by decide) (fun c_4 => ?_) (fun c_4 => ?_)
        · skip
          refine lv_iconst (v := nI 0) hx hb dX5_lane_41 (by decide) ?_
          refine lv_istore_n (lv' := [(1, .int (nI 0)), (0, .ref (xa cx 136))]) hx hb dX5_lane_42 rfl hl (by decide) rfl (fun ls hl => ?_)
          have htk : ∀ z, z < An S / 5 → tk (At S) z ≤ 4 := fun z hz => (lok_readL hfn.1 hfn.2).2.2.2.1 z hz |>.1
          have LOOP43 : ∀ (d i : Nat) (qa : Nat → Int32) (qb : Nat → Int32) (μ2 : ME) (H : Heap) (locs : List Loc) (ls : Array Slot), i + d = An S / 5 → (μ2 138 = .inl (xT cx 0, 62, .inl qa)) → (μ2 137 = .inl (xT cx 0, 6, .inl qb)) → (∀ z, ¬ z = 138 → ¬ z = 137 → μ2 z = μ1 z) → (rdM (At S) (An S) qa qb i) → St cx s μ2 H locs → lv_has ls 2 [(0, .ref (xa cx 136)), (1, .int (nI i))] → W p l e { frames := 2, cells := 0, slots := 0, locals := 49 } s m [.ref (xa cx 136)].toArray below meth c H locs 0 0 (MQ below (Ei cx (r_lane S) (fun μ1 => modX cx μ1 (s_lane S) (fun _ => True) ∧ off 136 13 μ μ1)) [.ref (xa cx 136)].toArray s 0 0 (xA cx)) (F0 m 43 ls []) := by
            intro d
            induction d with
            | zero =>
              intro i qa qb μ2 H locs ls hid hra hrb hro hrm hW hl
              have r136 := (hro 136 (by omega) (by omega)).trans k136
              have r139 := (hro 139 (by omega) (by omega)).trans k139
              have r140 := (hro 140 (by omega) (by omega)).trans k140
              have r141 := (hro 141 (by omega) (by omega)).trans k141
              have r142 := (hro 142 (by omega) (by omega)).trans k142
              have r143 := (hro 143 (by omega) (by omega)).trans k143
              have r144 := (hro 144 (by omega) (by omega)).trans k144
              have r145 := (hro 145 (by omega) (by omega)).trans k145
              have r146 := (hro 146 (by omega) (by omega)).trans k146
              have r147 := (hro 147 (by omega) (by omega)).trans k147
              have r148 := (hro 148 (by omega) (by omega)).trans k148
              refine lv_iload_n hx hb dX5_lane_43 rfl (lv_at hl 1 rfl) ?_
              refine lv_aload_n hx hb dX5_lane_44 rfl (lv_at hl 0 rfl) ?_
              refine nv_get F hW (by omega) r136 rfl iX5 0 (by decide) tw_629 rfl dX5_lane_45 ?_
              refine nv_cge (tgt := 188) F (by omega) (by omega) dX5_lane_48 (by decide) (fun c_5 => ?_) (fun c_5 => ?_)
              · skip
                refine lv_aload_n hx hb dX5_lane_188 rfl (lv_at hl 0 rfl) ?_
                refine lv_iconst (v := nI 0) hx hb dX5_lane_189 (by decide) ?_
                refine nv_put F hW (by omega) r136 rfl iX5 tyX5 tyX5_ok nmX5 9 (by decide) tw_638 rfl rfl rfl (Nat.le_of_ble_eq_true rfl) dX5_lane_190 (fun H locs hW => ?_)
                obtain ⟨μ6, eμ6⟩ : ∃ zz9 : ME, zz9 = va_up μ2 136 (.inr (5, [.int (nI (An S / 5)), .ref (xa cx 137), .ref (xa cx 138), .ref (xa cx 139), .int (nI (An S / 5)), .ref (xa cx 140), .int (nI (An S)), .ref (xa cx 141), .ref (xa cx 142), .int (nI 0), .int (nI nx_q), .ref (xa cx 143), .int (nI (Ay S)), .ref (xa cx 144), .ref (xa cx 145), .ref (xa cx 146), .long (Ad S), .ref (xa cx 147), .ref (xa cx 148)])) := ⟨_, rfl⟩
                have hW : St cx s μ6 H locs := by rw [eμ6]; exact hW
                have h136_6 : μ6 136 = .inr (5, [.int (nI (An S / 5)), .ref (xa cx 137), .ref (xa cx 138), .ref (xa cx 139), .int (nI (An S / 5)), .ref (xa cx 140), .int (nI (An S)), .ref (xa cx 141), .ref (xa cx 142), .int (nI 0), .int (nI nx_q), .ref (xa cx 143), .int (nI (Ay S)), .ref (xa cx 144), .ref (xa cx 145), .ref (xa cx 146), .long (Ad S), .ref (xa cx 147), .ref (xa cx 148)]) := by rw [eμ6, va_up_self]
                have h137_6 := (congrFun eμ6 137).trans ((va_up_ne _ _ (by omega)).trans hrb)
                have h138_6 := (congrFun eμ6 138).trans ((va_up_ne _ _ (by omega)).trans hra)
                have h139_6 := (congrFun eμ6 139).trans ((va_up_ne _ _ (by omega)).trans r139)
                have h140_6 := (congrFun eμ6 140).trans ((va_up_ne _ _ (by omega)).trans r140)
                have h141_6 := (congrFun eμ6 141).trans ((va_up_ne _ _ (by omega)).trans r141)
                have h142_6 := (congrFun eμ6 142).trans ((va_up_ne _ _ (by omega)).trans r142)
                have h143_6 := (congrFun eμ6 143).trans ((va_up_ne _ _ (by omega)).trans r143)
                have h144_6 := (congrFun eμ6 144).trans ((va_up_ne _ _ (by omega)).trans r144)
                have h145_6 := (congrFun eμ6 145).trans ((va_up_ne _ _ (by omega)).trans r145)
                have h146_6 := (congrFun eμ6 146).trans ((va_up_ne _ _ (by omega)).trans r146)
                have h147_6 := (congrFun eμ6 147).trans ((va_up_ne _ _ (by omega)).trans r147)
                have h148_6 := (congrFun eμ6 148).trans ((va_up_ne _ _ (by omega)).trans r148)
                refine lv_aload_n hx hb dX5_lane_193 rfl (lv_at hl 0 rfl) ?_
                refine nv_get F hW (by omega) h136_6 rfl iX5 17 (by decide) tw_646 rfl dX5_lane_194 ?_
                refine lv_iconst (v := nI 0) hx hb dX5_lane_197 (by decide) ?_
                refine lv_iconst (v := nI 0) hx hb dX5_lane_198 (by decide) ?_
                refine nv_zastN F hW (by omega) h147_6 (by omega) (by decide) rfl dX5_lane_199 (fun H locs hW => ?_)
                obtain ⟨μ7, eμ7⟩ : ∃ zz9 : ME, zz9 = va_up μ6 147 (.inl (xT cx 2, 2, .inl (upd fz_r 0 ((nI 0))))) := ⟨_, rfl⟩
                have hW : St cx s μ7 H locs := by rw [eμ7]; exact hW
                have h136_7 := (congrFun eμ7 136).trans ((va_up_ne _ _ (by omega)).trans h136_6)
                have h137_7 := (congrFun eμ7 137).trans ((va_up_ne _ _ (by omega)).trans h137_6)
                have h138_7 := (congrFun eμ7 138).trans ((va_up_ne _ _ (by omega)).trans h138_6)
                have h139_7 := (congrFun eμ7 139).trans ((va_up_ne _ _ (by omega)).trans h139_6)
                have h140_7 := (congrFun eμ7 140).trans ((va_up_ne _ _ (by omega)).trans h140_6)
                have h141_7 := (congrFun eμ7 141).trans ((va_up_ne _ _ (by omega)).trans h141_6)
                have h142_7 := (congrFun eμ7 142).trans ((va_up_ne _ _ (by omega)).trans h142_6)
                have h143_7 := (congrFun eμ7 143).trans ((va_up_ne _ _ (by omega)).trans h143_6)
                have h144_7 := (congrFun eμ7 144).trans ((va_up_ne _ _ (by omega)).trans h144_6)
                have h145_7 := (congrFun eμ7 145).trans ((va_up_ne _ _ (by omega)).trans h145_6)
                have h146_7 := (congrFun eμ7 146).trans ((va_up_ne _ _ (by omega)).trans h146_6)
                have h147_7 : μ7 147 = .inl (xT cx 2, 2, .inl (upd fz_r 0 ((nI 0)))) := by rw [eμ7, va_up_self]
                have h148_7 := (congrFun eμ7 148).trans ((va_up_ne _ _ (by omega)).trans h148_6)
                refine lv_aload_n hx hb dX5_lane_200 rfl (lv_at hl 0 rfl) ?_
                refine nv_get F hW (by omega) h136_7 rfl iX5 17 (by decide) tw_646 rfl dX5_lane_201 ?_
                refine lv_iconst (v := nI 1) hx hb dX5_lane_204 (by decide) ?_
                refine lv_iconst (v := nI 0) hx hb dX5_lane_205 (by decide) ?_
                refine nv_zastN F hW (by omega) h147_7 (by omega) (by decide) rfl dX5_lane_206 (fun H locs hW => ?_)
                obtain ⟨μ8, eμ8⟩ : ∃ zz9 : ME, zz9 = va_up μ7 147 (.inl (xT cx 2, 2, .inl (upd (upd fz_r 0 ((nI 0))) 1 ((nI 0))))) := ⟨_, rfl⟩
                have hW : St cx s μ8 H locs := by rw [eμ8]; exact hW
                have h136_8 := (congrFun eμ8 136).trans ((va_up_ne _ _ (by omega)).trans h136_7)
                have h137_8 := (congrFun eμ8 137).trans ((va_up_ne _ _ (by omega)).trans h137_7)
                have h138_8 := (congrFun eμ8 138).trans ((va_up_ne _ _ (by omega)).trans h138_7)
                have h139_8 := (congrFun eμ8 139).trans ((va_up_ne _ _ (by omega)).trans h139_7)
                have h140_8 := (congrFun eμ8 140).trans ((va_up_ne _ _ (by omega)).trans h140_7)
                have h141_8 := (congrFun eμ8 141).trans ((va_up_ne _ _ (by omega)).trans h141_7)
                have h142_8 := (congrFun eμ8 142).trans ((va_up_ne _ _ (by omega)).trans h142_7)
                have h143_8 := (congrFun eμ8 143).trans ((va_up_ne _ _ (by omega)).trans h143_7)
                have h144_8 := (congrFun eμ8 144).trans ((va_up_ne _ _ (by omega)).trans h144_7)
                have h145_8 := (congrFun eμ8 145).trans ((va_up_ne _ _ (by omega)).trans h145_7)
                have h146_8 := (congrFun eμ8 146).trans ((va_up_ne _ _ (by omega)).trans h146_7)
                have h147_8 : μ8 147 = .inl (xT cx 2, 2, .inl (upd (upd fz_r 0 ((nI 0))) 1 ((nI 0)))) := by rw [eμ8, va_up_self]
                have h148_8 := (congrFun eμ8 148).trans ((va_up_ne _ _ (by omega)).trans h148_7)
                refine lv_aload_n hx hb dX5_lane_207 rfl (lv_at hl 0 rfl) ?_
                refine nv_get F hW (by omega) h136_8 rfl iX5 0 (by decide) tw_629 rfl dX5_lane_208 ?_
                have e5 : i = An S / 5 := by omega
                rw [e5] at hrm
                exact rt_ie F hr hlk hW (by unfold r_lane; rw [if_pos hE9]) ⟨by unfold s_lane; rw [if_pos hE9]; exact ⟨_, nx_q, qb, qa, qr, ft_r, fo_r, fa_r, frw_r, fh_r, fu_r, fb_r, (upd (upd fz_r 0 ((nI 0))) 1 ((nI 0))), fkp_r, h136_8, h137_8, h138_8, h139_8, h140_8, h141_8, h142_8, h143_8, h144_8, h145_8, h146_8, h147_8, h148_8, fun z hz => (hrm.1 z hz).2.2.2.2.2, rdM_end hrm, ht_r, by omega, fun k hk9 => absurd (show k < 0 from hk9) (by omega), hse_r, fun z hz => ⟨(by show _ = b2 (Nat.testBit 0 z); rw [Nat.zero_testBit]; rcases (show z = 0 ∨ z = 1 by omega) with rfl | rfl <;> rfl), fun hb9 => absurd (show Nat.testBit 0 z = true from hb9) (by rw [Nat.zero_testBit]; decide)⟩, trivial⟩, (fun z hz => by rw [eμ8, va_up_ne _ _ (by omega)]; rw [eμ7, va_up_ne _ _ (by omega)]; rw [eμ6, va_up_ne _ _ (by omega)]; rw [hro z (by omega) (by omega)]; rw [hqo z (by omega)]; rw [eμ3, va_up_ne _ _ (by omega)]; rw [ho_r z (by omega)])⟩ dX5_lane_211
              · skip
                exact absurd c_5 (by omega)
            | succ d ih43 =>
              intro i qa qb μ2 H locs ls hid hra hrb hro hrm hW hl
              have r136 := (hro 136 (by omega) (by omega)).trans k136
              have r139 := (hro 139 (by omega) (by omega)).trans k139
              have r140 := (hro 140 (by omega) (by omega)).trans k140
              have r141 := (hro 141 (by omega) (by omega)).trans k141
              have r142 := (hro 142 (by omega) (by omega)).trans k142
              have r143 := (hro 143 (by omega) (by omega)).trans k143
              have r144 := (hro 144 (by omega) (by omega)).trans k144
              have r145 := (hro 145 (by omega) (by omega)).trans k145
              have r146 := (hro 146 (by omega) (by omega)).trans k146
              have r147 := (hro 147 (by omega) (by omega)).trans k147
              have r148 := (hro 148 (by omega) (by omega)).trans k148
              refine lv_iload_n hx hb dX5_lane_43 rfl (lv_at hl 1 rfl) ?_
              refine lv_aload_n hx hb dX5_lane_44 rfl (lv_at hl 0 rfl) ?_
              refine nv_get F hW (by omega) r136 rfl iX5 0 (by decide) tw_629 rfl dX5_lane_45 ?_
              refine nv_cge (tgt := 188) F (by omega) (by omega) dX5_lane_48 (by decide) (fun c_9 => ?_) (fun c_9 => ?_)
              · skip
                exact absurd c_9 (by omega)
              · skip
                refine lv_aload_n hx hb dX5_lane_51 rfl (lv_at hl 0 rfl) ?_
                refine nv_get F hW (by omega) r136 rfl iX5 2 (by decide) tw_631 rfl dX5_lane_52 ?_
                refine lv_iconst (v := nI 0) hx hb dX5_lane_55 (by decide) ?_
                refine lv_iload_n hx hb dX5_lane_56 rfl (lv_at hl 1 rfl) ?_
                refine nv_add F dX5_lane_57 ?_
                refine lv_aload_n hx hb dX5_lane_58 rfl (lv_at hl 0 rfl) ?_
                refine nv_get F hW (by omega) r136 rfl iX5 3 (by decide) tw_632 rfl dX5_lane_59 ?_
                refine lv_iconst (v := nI 4) hx hb dX5_lane_62 (by decide) ?_
                refine lv_iload_n hx hb dX5_lane_63 rfl (lv_at hl 1 rfl) ?_
                refine nv_mul F dX5_lane_64 ?_
                refine nv_ialdN (x := ((nI (tk (At S) i)))) F hW (by omega) r139 (by omega) (by decide) (hqr i 0 (by omega) (by omega)) dX5_lane_65 ?_
                refine nv_iastN F hW (by omega) hra (by omega) (by decide) dX5_lane_66 (fun H locs hW => ?_)
                obtain ⟨μ10, eμ10⟩ : ∃ zz9 : ME, zz9 = va_up μ2 138 (.inl (xT cx 0, 62, .inl (upd qa (0 + i) ((nI (tk (At S) i)))))) := ⟨_, rfl⟩
                have hW : St cx s μ10 H locs := by rw [eμ10]; exact hW
                have h136_10 := (congrFun eμ10 136).trans ((va_up_ne _ _ (by omega)).trans r136)
                have h137_10 := (congrFun eμ10 137).trans ((va_up_ne _ _ (by omega)).trans hrb)
                have h138_10 : μ10 138 = .inl (xT cx 0, 62, .inl (upd qa (0 + i) ((nI (tk (At S) i))))) := by rw [eμ10, va_up_self]
                have h139_10 := (congrFun eμ10 139).trans ((va_up_ne _ _ (by omega)).trans r139)
                have h140_10 := (congrFun eμ10 140).trans ((va_up_ne _ _ (by omega)).trans r140)
                have h141_10 := (congrFun eμ10 141).trans ((va_up_ne _ _ (by omega)).trans r141)
                have h142_10 := (congrFun eμ10 142).trans ((va_up_ne _ _ (by omega)).trans r142)
                have h143_10 := (congrFun eμ10 143).trans ((va_up_ne _ _ (by omega)).trans r143)
                have h144_10 := (congrFun eμ10 144).trans ((va_up_ne _ _ (by omega)).trans r144)
                have h145_10 := (congrFun eμ10 145).trans ((va_up_ne _ _ (by omega)).trans r145)
                have h146_10 := (congrFun eμ10 146).trans ((va_up_ne _ _ (by omega)).trans r146)
                have h147_10 := (congrFun eμ10 147).trans ((va_up_ne _ _ (by omega)).trans r147)
                have h148_10 := (congrFun eμ10 148).trans ((va_up_ne _ _ (by omega)).trans r148)
                refine lv_aload_n hx hb dX5_lane_67 rfl (lv_at hl 0 rfl) ?_
                refine nv_get F hW (by omega) h136_10 rfl iX5 2 (by decide) tw_631 rfl dX5_lane_68 ?_
                refine lv_bipush (v := nI 6) hx hb dX5_lane_71 (by decide) ?_
                refine lv_iload_n hx hb dX5_lane_73 rfl (lv_at hl 1 rfl) ?_
                refine nv_add F dX5_lane_74 ?_
                refine lv_aload_n hx hb dX5_lane_75 rfl (lv_at hl 0 rfl) ?_
                refine nv_get F hW (by omega) h136_10 rfl iX5 3 (by decide) tw_632 rfl dX5_lane_76 ?_
                refine lv_iconst (v := nI 4) hx hb dX5_lane_79 (by decide) ?_
                refine lv_iload_n hx hb dX5_lane_80 rfl (lv_at hl 1 rfl) ?_
                refine nv_mul F dX5_lane_81 ?_
                refine lv_iconst (v := nI 1) hx hb dX5_lane_82 (by decide) ?_
                refine nv_add F dX5_lane_83 ?_
                refine nv_ialdN (x := ((nI (ts (At S) i)))) F hW (by omega) h139_10 (by omega) (by decide) (hqr i 1 (by omega) (by omega)) dX5_lane_84 ?_
                refine nv_iastN F hW (by omega) h138_10 (by omega) (by decide) dX5_lane_85 (fun H locs hW => ?_)
                obtain ⟨μ11, eμ11⟩ : ∃ zz9 : ME, zz9 = va_up μ10 138 (.inl (xT cx 0, 62, .inl (upd (upd qa (0 + i) ((nI (tk (At S) i)))) (6 + i) ((nI (ts (At S) i)))))) := ⟨_, rfl⟩
                have hW : St cx s μ11 H locs := by rw [eμ11]; exact hW
                have h136_11 := (congrFun eμ11 136).trans ((va_up_ne _ _ (by omega)).trans h136_10)
                have h137_11 := (congrFun eμ11 137).trans ((va_up_ne _ _ (by omega)).trans h137_10)
                have h138_11 : μ11 138 = .inl (xT cx 0, 62, .inl (upd (upd qa (0 + i) ((nI (tk (At S) i)))) (6 + i) ((nI (ts (At S) i))))) := by rw [eμ11, va_up_self]
                have h139_11 := (congrFun eμ11 139).trans ((va_up_ne _ _ (by omega)).trans h139_10)
                have h140_11 := (congrFun eμ11 140).trans ((va_up_ne _ _ (by omega)).trans h140_10)
                have h141_11 := (congrFun eμ11 141).trans ((va_up_ne _ _ (by omega)).trans h141_10)
                have h142_11 := (congrFun eμ11 142).trans ((va_up_ne _ _ (by omega)).trans h142_10)
                have h143_11 := (congrFun eμ11 143).trans ((va_up_ne _ _ (by omega)).trans h143_10)
                have h144_11 := (congrFun eμ11 144).trans ((va_up_ne _ _ (by omega)).trans h144_10)
                have h145_11 := (congrFun eμ11 145).trans ((va_up_ne _ _ (by omega)).trans h145_10)
                have h146_11 := (congrFun eμ11 146).trans ((va_up_ne _ _ (by omega)).trans h146_10)
                have h147_11 := (congrFun eμ11 147).trans ((va_up_ne _ _ (by omega)).trans h147_10)
                have h148_11 := (congrFun eμ11 148).trans ((va_up_ne _ _ (by omega)).trans h148_10)
                refine lv_aload_n hx hb dX5_lane_86 rfl (lv_at hl 0 rfl) ?_
                refine nv_get F hW (by omega) h136_11 rfl iX5 1 (by decide) tw_630 rfl dX5_lane_87 ?_
                refine lv_iload_n hx hb dX5_lane_90 rfl (lv_at hl 1 rfl) ?_
                refine lv_aload_n hx hb dX5_lane_91 rfl (lv_at hl 0 rfl) ?_
                refine nv_get F hW (by omega) h136_11 rfl iX5 3 (by decide) tw_632 rfl dX5_lane_92 ?_
                refine lv_iconst (v := nI 4) hx hb dX5_lane_95 (by decide) ?_
                refine lv_iload_n hx hb dX5_lane_96 rfl (lv_at hl 1 rfl) ?_
                refine nv_mul F dX5_lane_97 ?_
                refine lv_iconst (v := nI 2) hx hb dX5_lane_98 (by decide) ?_
                refine nv_add F dX5_lane_99 ?_
                refine nv_ialdN (x := ((nI (tg (At S) i)))) F hW (by omega) h139_11 (by omega) (by decide) (hqr i 2 (by omega) (by omega)) dX5_lane_100 ?_
                refine nv_iastN F hW (by omega) h137_11 (by omega) (by decide) dX5_lane_101 (fun H locs hW => ?_)
                obtain ⟨μ12, eμ12⟩ : ∃ zz9 : ME, zz9 = va_up μ11 137 (.inl (xT cx 0, 6, .inl (upd qb i ((nI (tg (At S) i)))))) := ⟨_, rfl⟩
                have hW : St cx s μ12 H locs := by rw [eμ12]; exact hW
                have h136_12 := (congrFun eμ12 136).trans ((va_up_ne _ _ (by omega)).trans h136_11)
                have h137_12 : μ12 137 = .inl (xT cx 0, 6, .inl (upd qb i ((nI (tg (At S) i))))) := by rw [eμ12, va_up_self]
                have h138_12 := (congrFun eμ12 138).trans ((va_up_ne _ _ (by omega)).trans h138_11)
                have h139_12 := (congrFun eμ12 139).trans ((va_up_ne _ _ (by omega)).trans h139_11)
                have h140_12 := (congrFun eμ12 140).trans ((va_up_ne _ _ (by omega)).trans h140_11)
                have h141_12 := (congrFun eμ12 141).trans ((va_up_ne _ _ (by omega)).trans h141_11)
                have h142_12 := (congrFun eμ12 142).trans ((va_up_ne _ _ (by omega)).trans h142_11)
                have h143_12 := (congrFun eμ12 143).trans ((va_up_ne _ _ (by omega)).trans h143_11)
                have h144_12 := (congrFun eμ12 144).trans ((va_up_ne _ _ (by omega)).trans h144_11)
                have h145_12 := (congrFun eμ12 145).trans ((va_up_ne _ _ (by omega)).trans h145_11)
                have h146_12 := (congrFun eμ12 146).trans ((va_up_ne _ _ (by omega)).trans h146_11)
                have h147_12 := (congrFun eμ12 147).trans ((va_up_ne _ _ (by omega)).trans h147_11)
                have h148_12 := (congrFun eμ12 148).trans ((va_up_ne _ _ (by omega)).trans h148_11)
                refine lv_aload_n hx hb dX5_lane_102 rfl (lv_at hl 0 rfl) ?_
                refine nv_get F hW (by omega) h136_12 rfl iX5 2 (by decide) tw_631 rfl dX5_lane_103 ?_
                refine lv_bipush (v := nI 12) hx hb dX5_lane_106 (by decide) ?_
                refine lv_iload_n hx hb dX5_lane_108 rfl (lv_at hl 1 rfl) ?_
                refine nv_add F dX5_lane_109 ?_
                refine lv_aload_n hx hb dX5_lane_110 rfl (lv_at hl 0 rfl) ?_
                refine nv_get F hW (by omega) h136_12 rfl iX5 3 (by decide) tw_632 rfl dX5_lane_111 ?_
                refine lv_iconst (v := nI 4) hx hb dX5_lane_114 (by decide) ?_
                refine lv_iload_n hx hb dX5_lane_115 rfl (lv_at hl 1 rfl) ?_
                refine nv_mul F dX5_lane_116 ?_
                refine lv_iconst (v := nI 3) hx hb dX5_lane_117 (by decide) ?_
                refine nv_add F dX5_lane_118 ?_
                refine nv_ialdN (x := ((nI (td (At S) i)))) F hW (by omega) h139_12 (by omega) (by decide) (hqr i 3 (by omega) (by omega)) dX5_lane_119 ?_
                refine nv_iastN F hW (by omega) h138_12 (by omega) (by decide) dX5_lane_120 (fun H locs hW => ?_)
                obtain ⟨μ13, eμ13⟩ : ∃ zz9 : ME, zz9 = va_up μ12 138 (.inl (xT cx 0, 62, .inl (upd (upd (upd qa (0 + i) ((nI (tk (At S) i)))) (6 + i) ((nI (ts (At S) i)))) (12 + i) ((nI (td (At S) i)))))) := ⟨_, rfl⟩
                have hW : St cx s μ13 H locs := by rw [eμ13]; exact hW
                have h136_13 := (congrFun eμ13 136).trans ((va_up_ne _ _ (by omega)).trans h136_12)
                have h137_13 := (congrFun eμ13 137).trans ((va_up_ne _ _ (by omega)).trans h137_12)
                have h138_13 : μ13 138 = .inl (xT cx 0, 62, .inl (upd (upd (upd qa (0 + i) ((nI (tk (At S) i)))) (6 + i) ((nI (ts (At S) i)))) (12 + i) ((nI (td (At S) i))))) := by rw [eμ13, va_up_self]
                have h139_13 := (congrFun eμ13 139).trans ((va_up_ne _ _ (by omega)).trans h139_12)
                have h140_13 := (congrFun eμ13 140).trans ((va_up_ne _ _ (by omega)).trans h140_12)
                have h141_13 := (congrFun eμ13 141).trans ((va_up_ne _ _ (by omega)).trans h141_12)
                have h142_13 := (congrFun eμ13 142).trans ((va_up_ne _ _ (by omega)).trans h142_12)
                have h143_13 := (congrFun eμ13 143).trans ((va_up_ne _ _ (by omega)).trans h143_12)
                have h144_13 := (congrFun eμ13 144).trans ((va_up_ne _ _ (by omega)).trans h144_12)
                have h145_13 := (congrFun eμ13 145).trans ((va_up_ne _ _ (by omega)).trans h145_12)
                have h146_13 := (congrFun eμ13 146).trans ((va_up_ne _ _ (by omega)).trans h146_12)
                have h147_13 := (congrFun eμ13 147).trans ((va_up_ne _ _ (by omega)).trans h147_12)
                have h148_13 := (congrFun eμ13 148).trans ((va_up_ne _ _ (by omega)).trans h148_12)
                refine lv_aload_n hx hb dX5_lane_121 rfl (lv_at hl 0 rfl) ?_
                refine nv_get F hW (by omega) h136_13 rfl iX5 2 (by decide) tw_631 rfl dX5_lane_122 ?_
                refine lv_bipush (v := nI 18) hx hb dX5_lane_125 (by decide) ?_
                refine lv_iload_n hx hb dX5_lane_127 rfl (lv_at hl 1 rfl) ?_
                refine nv_add F dX5_lane_128 ?_
                refine lv_aload_n hx hb dX5_lane_129 rfl (lv_at hl 0 rfl) ?_
                refine nv_get F hW (by omega) h136_13 rfl iX5 3 (by decide) tw_632 rfl dX5_lane_130 ?_
                refine lv_iconst (v := nI 4) hx hb dX5_lane_133 (by decide) ?_
                refine lv_iload_n hx hb dX5_lane_134 rfl (lv_at hl 1 rfl) ?_
                refine nv_mul F dX5_lane_135 ?_
                refine nv_ialdN (x := ((nI (tk (At S) i)))) F hW (by omega) h139_13 (by omega) (by decide) (hqr i 0 (by omega) (by omega)) dX5_lane_136 ?_
                refine lv_iconst (v := nI 4) hx hb dX5_lane_137 (by decide) ?_
                refine nv_cne (tgt := 145) F (by have := htk i (by omega); omega) (by omega) dX5_lane_138 (by decide) (fun c_14 => ?_) (fun c_14 => ?_)
                · skip
                  refine lv_iconst (v := nI 1) hx hb dX5_lane_145 (by decide) ?_
                  refine nv_iastN F hW (by omega) h138_13 (by omega) (by decide) dX5_lane_146 (fun H locs hW => ?_)
                  obtain ⟨μ15, eμ15⟩ : ∃ zz9 : ME, zz9 = va_up μ13 138 (.inl (xT cx 0, 62, .inl (upd (upd (upd (upd qa (0 + i) ((nI (tk (At S) i)))) (6 + i) ((nI (ts (At S) i)))) (12 + i) ((nI (td (At S) i)))) (18 + i) ((nI 1))))) := ⟨_, rfl⟩
                  have hW : St cx s μ15 H locs := by rw [eμ15]; exact hW
                  have h136_15 := (congrFun eμ15 136).trans ((va_up_ne _ _ (by omega)).trans h136_13)
                  have h137_15 := (congrFun eμ15 137).trans ((va_up_ne _ _ (by omega)).trans h137_13)
                  have h138_15 : μ15 138 = .inl (xT cx 0, 62, .inl (upd (upd (upd (upd qa (0 + i) ((nI (tk (At S) i)))) (6 + i) ((nI (ts (At S) i)))) (12 + i) ((nI (td (At S) i)))) (18 + i) ((nI 1)))) := by rw [eμ15, va_up_self]
                  have h139_15 := (congrFun eμ15 139).trans ((va_up_ne _ _ (by omega)).trans h139_13)
                  have h140_15 := (congrFun eμ15 140).trans ((va_up_ne _ _ (by omega)).trans h140_13)
                  have h141_15 := (congrFun eμ15 141).trans ((va_up_ne _ _ (by omega)).trans h141_13)
                  have h142_15 := (congrFun eμ15 142).trans ((va_up_ne _ _ (by omega)).trans h142_13)
                  have h143_15 := (congrFun eμ15 143).trans ((va_up_ne _ _ (by omega)).trans h143_13)
                  have h144_15 := (congrFun eμ15 144).trans ((va_up_ne _ _ (by omega)).trans h144_13)
                  have h145_15 := (congrFun eμ15 145).trans ((va_up_ne _ _ (by omega)).trans h145_13)
                  have h146_15 := (congrFun eμ15 146).trans ((va_up_ne _ _ (by omega)).trans h146_13)
                  have h147_15 := (congrFun eμ15 147).trans ((va_up_ne _ _ (by omega)).trans h147_13)
                  have h148_15 := (congrFun eμ15 148).trans ((va_up_ne _ _ (by omega)).trans h148_13)
                  refine lv_aload_n hx hb dX5_lane_147 rfl (lv_at hl 0 rfl) ?_
                  refine nv_get F hW (by omega) h136_15 rfl iX5 2 (by decide) tw_631 rfl dX5_lane_148 ?_
                  refine lv_bipush (v := nI 24) hx hb dX5_lane_151 (by decide) ?_
                  refine lv_iload_n hx hb dX5_lane_153 rfl (lv_at hl 1 rfl) ?_
                  refine nv_add F dX5_lane_154 ?_
                  refine lv_aload_n hx hb dX5_lane_155 rfl (lv_at hl 0 rfl) ?_
                  refine nv_get F hW (by omega) h136_15 rfl iX5 3 (by decide) tw_632 rfl dX5_lane_156 ?_
                  refine lv_iconst (v := nI 4) hx hb dX5_lane_159 (by decide) ?_
                  refine lv_iload_n hx hb dX5_lane_160 rfl (lv_at hl 1 rfl) ?_
                  refine nv_mul F dX5_lane_161 ?_
                  refine nv_ialdN (x := ((nI (tk (At S) i)))) F hW (by omega) h139_15 (by omega) (by decide) (hqr i 0 (by omega) (by omega)) dX5_lane_162 ?_
                  refine lv_iconst (v := nI 4) hx hb dX5_lane_163 (by decide) ?_
                  refine nv_cne (tgt := 171) F (by have := htk i (by omega); omega) (by omega) dX5_lane_164 (by decide) (fun c_16 => ?_) (fun c_16 => ?_)
                  · skip
                    refine lv_aload_n hx hb dX5_lane_171 rfl (lv_at hl 0 rfl) ?_
                    refine nv_get F hW (by omega) h136_15 rfl iX5 3 (by decide) tw_632 rfl dX5_lane_172 ?_
                    refine lv_iconst (v := nI 4) hx hb dX5_lane_175 (by decide) ?_
                    refine lv_iload_n hx hb dX5_lane_176 rfl (lv_at hl 1 rfl) ?_
                    refine nv_mul F dX5_lane_177 ?_
                    refine lv_iconst (v := nI 1) hx hb dX5_lane_178 (by decide) ?_
                    refine nv_add F dX5_lane_179 ?_
                    refine nv_ialdN (x := ((nI (ts (At S) i)))) F hW (by omega) h139_15 (by omega) (by decide) (hqr i 1 (by omega) (by omega)) dX5_lane_180 ?_
                    refine nv_iastN F hW (by omega) h138_15 (by omega) (by decide) dX5_lane_181 (fun H locs hW => ?_)
                    obtain ⟨μ17, eμ17⟩ : ∃ zz9 : ME, zz9 = va_up μ15 138 (.inl (xT cx 0, 62, .inl (upd (upd (upd (upd (upd qa (0 + i) ((nI (tk (At S) i)))) (6 + i) ((nI (ts (At S) i)))) (12 + i) ((nI (td (At S) i)))) (18 + i) ((nI 1))) (24 + i) ((nI (ts (At S) i)))))) := ⟨_, rfl⟩
                    have hW : St cx s μ17 H locs := by rw [eμ17]; exact hW
                    have h136_17 := (congrFun eμ17 136).trans ((va_up_ne _ _ (by omega)).trans h136_15)
                    have h137_17 := (congrFun eμ17 137).trans ((va_up_ne _ _ (by omega)).trans h137_15)
                    have h138_17 : μ17 138 = .inl (xT cx 0, 62, .inl (upd (upd (upd (upd (upd qa (0 + i) ((nI (tk (At S) i)))) (6 + i) ((nI (ts (At S) i)))) (12 + i) ((nI (td (At S) i)))) (18 + i) ((nI 1))) (24 + i) ((nI (ts (At S) i))))) := by rw [eμ17, va_up_self]
                    have h139_17 := (congrFun eμ17 139).trans ((va_up_ne _ _ (by omega)).trans h139_15)
                    have h140_17 := (congrFun eμ17 140).trans ((va_up_ne _ _ (by omega)).trans h140_15)
                    have h141_17 := (congrFun eμ17 141).trans ((va_up_ne _ _ (by omega)).trans h141_15)
                    have h142_17 := (congrFun eμ17 142).trans ((va_up_ne _ _ (by omega)).trans h142_15)
                    have h143_17 := (congrFun eμ17 143).trans ((va_up_ne _ _ (by omega)).trans h143_15)
                    have h144_17 := (congrFun eμ17 144).trans ((va_up_ne _ _ (by omega)).trans h144_15)
                    have h145_17 := (congrFun eμ17 145).trans ((va_up_ne _ _ (by omega)).trans h145_15)
                    have h146_17 := (congrFun eμ17 146).trans ((va_up_ne _ _ (by omega)).trans h146_15)
                    have h147_17 := (congrFun eμ17 147).trans ((va_up_ne _ _ (by omega)).trans h147_15)
                    have h148_17 := (congrFun eμ17 148).trans ((va_up_ne _ _ (by omega)).trans h148_15)
                    refine lv_iinc (v := ((nI (i + 1)))) (lv' := [(1, .int (nI (i + 1))), (0, .ref (xa cx 136))]) hx hb dX5_lane_182 hl (k := 1) rfl (nI_add _ _) (by decide) rfl (fun ls hl => ?_)
                    refine lv_goto (tgt := 43) hx hb dX5_lane_185 (by decide) ?_
                    exact ih43 (i + 1) _ _ μ17 _ _ _ (by omega) h138_17 h137_17 (fun z h1 h2 => by rw [eμ17, va_up_ne _ _ (by omega)]; rw [eμ15, va_up_ne _ _ (by omega)]; rw [eμ13, va_up_ne _ _ (by omega)]; rw [eμ12, va_up_ne _ _ (by omega)]; rw [eμ11, va_up_ne _ _ (by omega)]; rw [eμ10, va_up_ne _ _ (by omega)]; exact hro z h1 h2) (rdM_step hrm (by omega) (by first | (rw [if_pos (by omega)]; done) | (rw [if_neg (by omega)]; done)) (by first | (rw [if_pos (by omega)]; done) | (rw [if_neg (by omega)]; done))) hW (lv_sub hl [1, 0] rfl)
                  · skip
                    refine lv_iconst (v := nI 0) hx hb dX5_lane_167 (by decide) ?_
                    refine lv_goto (tgt := 181) hx hb dX5_lane_168 (by decide) ?_
                    refine nv_iastN F hW (by omega) h138_15 (by omega) (by decide) dX5_lane_181 (fun H locs hW => ?_)
                    obtain ⟨μ18, eμ18⟩ : ∃ zz9 : ME, zz9 = va_up μ15 138 (.inl (xT cx 0, 62, .inl (upd (upd (upd (upd (upd qa (0 + i) ((nI (tk (At S) i)))) (6 + i) ((nI (ts (At S) i)))) (12 + i) ((nI (td (At S) i)))) (18 + i) ((nI 1))) (24 + i) ((nI 0))))) := ⟨_, rfl⟩
                    have hW : St cx s μ18 H locs := by rw [eμ18]; exact hW
                    have h136_18 := (congrFun eμ18 136).trans ((va_up_ne _ _ (by omega)).trans h136_15)
                    have h137_18 := (congrFun eμ18 137).trans ((va_up_ne _ _ (by omega)).trans h137_15)
                    have h138_18 : μ18 138 = .inl (xT cx 0, 62, .inl (upd (upd (upd (upd (upd qa (0 + i) ((nI (tk (At S) i)))) (6 + i) ((nI (ts (At S) i)))) (12 + i) ((nI (td (At S) i)))) (18 + i) ((nI 1))) (24 + i) ((nI 0)))) := by rw [eμ18, va_up_self]
                    have h139_18 := (congrFun eμ18 139).trans ((va_up_ne _ _ (by omega)).trans h139_15)
                    have h140_18 := (congrFun eμ18 140).trans ((va_up_ne _ _ (by omega)).trans h140_15)
                    have h141_18 := (congrFun eμ18 141).trans ((va_up_ne _ _ (by omega)).trans h141_15)
                    have h142_18 := (congrFun eμ18 142).trans ((va_up_ne _ _ (by omega)).trans h142_15)
                    have h143_18 := (congrFun eμ18 143).trans ((va_up_ne _ _ (by omega)).trans h143_15)
                    have h144_18 := (congrFun eμ18 144).trans ((va_up_ne _ _ (by omega)).trans h144_15)
                    have h145_18 := (congrFun eμ18 145).trans ((va_up_ne _ _ (by omega)).trans h145_15)
                    have h146_18 := (congrFun eμ18 146).trans ((va_up_ne _ _ (by omega)).trans h146_15)
                    have h147_18 := (congrFun eμ18 147).trans ((va_up_ne _ _ (by omega)).trans h147_15)
                    have h148_18 := (congrFun eμ18 148).trans ((va_up_ne _ _ (by omega)).trans h148_15)
                    refine lv_iinc (v := ((nI (i + 1)))) (lv' := [(1, .int (nI (i + 1))), (0, .ref (xa cx 136))]) hx hb dX5_lane_182 hl (k := 1) rfl (nI_add _ _) (by decide) rfl (fun ls hl => ?_)
                    refine lv_goto (tgt := 43) hx hb dX5_lane_185 (by decide) ?_
                    exact ih43 (i + 1) _ _ μ18 _ _ _ (by omega) h138_18 h137_18 (fun z h1 h2 => by rw [eμ18, va_up_ne _ _ (by omega)]; rw [eμ15, va_up_ne _ _ (by omega)]; rw [eμ13, va_up_ne _ _ (by omega)]; rw [eμ12, va_up_ne _ _ (by omega)]; rw [eμ11, va_up_ne _ _ (by omega)]; rw [eμ10, va_up_ne _ _ (by omega)]; exact hro z h1 h2) (rdM_step hrm (by omega) (by first | (rw [if_pos (by omega)]; done) | (rw [if_neg (by omega)]; done)) (by first | (rw [if_pos (by omega)]; done) | (rw [if_neg (by omega)]; done))) hW (lv_sub hl [1, 0] rfl)
                · skip
                  refine lv_iconst (v := nI 0) hx hb dX5_lane_141 (by decide) ?_
                  refine lv_goto (tgt := 146) hx hb dX5_lane_142 (by decide) ?_
                  refine nv_iastN F hW (by omega) h138_13 (by omega) (by decide) dX5_lane_146 (fun H locs hW => ?_)
                  obtain ⟨μ19, eμ19⟩ : ∃ zz9 : ME, zz9 = va_up μ13 138 (.inl (xT cx 0, 62, .inl (upd (upd (upd (upd qa (0 + i) ((nI (tk (At S) i)))) (6 + i) ((nI (ts (At S) i)))) (12 + i) ((nI (td (At S) i)))) (18 + i) ((nI 0))))) := ⟨_, rfl⟩
                  have hW : St cx s μ19 H locs := by rw [eμ19]; exact hW
                  have h136_19 := (congrFun eμ19 136).trans ((va_up_ne _ _ (by omega)).trans h136_13)
                  have h137_19 := (congrFun eμ19 137).trans ((va_up_ne _ _ (by omega)).trans h137_13)
                  have h138_19 : μ19 138 = .inl (xT cx 0, 62, .inl (upd (upd (upd (upd qa (0 + i) ((nI (tk (At S) i)))) (6 + i) ((nI (ts (At S) i)))) (12 + i) ((nI (td (At S) i)))) (18 + i) ((nI 0)))) := by rw [eμ19, va_up_self]
                  have h139_19 := (congrFun eμ19 139).trans ((va_up_ne _ _ (by omega)).trans h139_13)
                  have h140_19 := (congrFun eμ19 140).trans ((va_up_ne _ _ (by omega)).trans h140_13)
                  have h141_19 := (congrFun eμ19 141).trans ((va_up_ne _ _ (by omega)).trans h141_13)
                  have h142_19 := (congrFun eμ19 142).trans ((va_up_ne _ _ (by omega)).trans h142_13)
                  have h143_19 := (congrFun eμ19 143).trans ((va_up_ne _ _ (by omega)).trans h143_13)
                  have h144_19 := (congrFun eμ19 144).trans ((va_up_ne _ _ (by omega)).trans h144_13)
                  have h145_19 := (congrFun eμ19 145).trans ((va_up_ne _ _ (by omega)).trans h145_13)
                  have h146_19 := (congrFun eμ19 146).trans ((va_up_ne _ _ (by omega)).trans h146_13)
                  have h147_19 := (congrFun eμ19 147).trans ((va_up_ne _ _ (by omega)).trans h147_13)
                  have h148_19 := (congrFun eμ19 148).trans ((va_up_ne _ _ (by omega)).trans h148_13)
                  refine lv_aload_n hx hb dX5_lane_147 rfl (lv_at hl 0 rfl) ?_
                  refine nv_get F hW (by omega) h136_19 rfl iX5 2 (by decide) tw_631 rfl dX5_lane_148 ?_
                  refine lv_bipush (v := nI 24) hx hb dX5_lane_151 (by decide) ?_
                  refine lv_iload_n hx hb dX5_lane_153 rfl (lv_at hl 1 rfl) ?_
                  refine nv_add F dX5_lane_154 ?_
                  refine lv_aload_n hx hb dX5_lane_155 rfl (lv_at hl 0 rfl) ?_
                  refine nv_get F hW (by omega) h136_19 rfl iX5 3 (by decide) tw_632 rfl dX5_lane_156 ?_
                  refine lv_iconst (v := nI 4) hx hb dX5_lane_159 (by decide) ?_
                  refine lv_iload_n hx hb dX5_lane_160 rfl (lv_at hl 1 rfl) ?_
                  refine nv_mul F dX5_lane_161 ?_
                  refine nv_ialdN (x := ((nI (tk (At S) i)))) F hW (by omega) h139_19 (by omega) (by decide) (hqr i 0 (by omega) (by omega)) dX5_lane_162 ?_
                  refine lv_iconst (v := nI 4) hx hb dX5_lane_163 (by decide) ?_
                  refine nv_cne (tgt := 171) F (by have := htk i (by omega); omega) (by omega) dX5_lane_164 (by decide) (fun c_20 => ?_) (fun c_20 => ?_)
                  · skip
                    refine lv_aload_n hx hb dX5_lane_171 rfl (lv_at hl 0 rfl) ?_
                    refine nv_get F hW (by omega) h136_19 rfl iX5 3 (by decide) tw_632 rfl dX5_lane_172 ?_
                    refine lv_iconst (v := nI 4) hx hb dX5_lane_175 (by decide) ?_
                    refine lv_iload_n hx hb dX5_lane_176 rfl (lv_at hl 1 rfl) ?_
                    refine nv_mul F dX5_lane_177 ?_
                    refine lv_iconst (v := nI 1) hx hb dX5_lane_178 (by decide) ?_
                    refine nv_add F dX5_lane_179 ?_
                    refine nv_ialdN (x := ((nI (ts (At S) i)))) F hW (by omega) h139_19 (by omega) (by decide) (hqr i 1 (by omega) (by omega)) dX5_lane_180 ?_
                    refine nv_iastN F hW (by omega) h138_19 (by omega) (by decide) dX5_lane_181 (fun H locs hW => ?_)
                    obtain ⟨μ21, eμ21⟩ : ∃ zz9 : ME, zz9 = va_up μ19 138 (.inl (xT cx 0, 62, .inl (upd (upd (upd (upd (upd qa (0 + i) ((nI (tk (At S) i)))) (6 + i) ((nI (ts (At S) i)))) (12 + i) ((nI (td (At S) i)))) (18 + i) ((nI 0))) (24 + i) ((nI (ts (At S) i)))))) := ⟨_, rfl⟩
                    have hW : St cx s μ21 H locs := by rw [eμ21]; exact hW
                    have h136_21 := (congrFun eμ21 136).trans ((va_up_ne _ _ (by omega)).trans h136_19)
                    have h137_21 := (congrFun eμ21 137).trans ((va_up_ne _ _ (by omega)).trans h137_19)
                    have h138_21 : μ21 138 = .inl (xT cx 0, 62, .inl (upd (upd (upd (upd (upd qa (0 + i) ((nI (tk (At S) i)))) (6 + i) ((nI (ts (At S) i)))) (12 + i) ((nI (td (At S) i)))) (18 + i) ((nI 0))) (24 + i) ((nI (ts (At S) i))))) := by rw [eμ21, va_up_self]
                    have h139_21 := (congrFun eμ21 139).trans ((va_up_ne _ _ (by omega)).trans h139_19)
                    have h140_21 := (congrFun eμ21 140).trans ((va_up_ne _ _ (by omega)).trans h140_19)
                    have h141_21 := (congrFun eμ21 141).trans ((va_up_ne _ _ (by omega)).trans h141_19)
                    have h142_21 := (congrFun eμ21 142).trans ((va_up_ne _ _ (by omega)).trans h142_19)
                    have h143_21 := (congrFun eμ21 143).trans ((va_up_ne _ _ (by omega)).trans h143_19)
                    have h144_21 := (congrFun eμ21 144).trans ((va_up_ne _ _ (by omega)).trans h144_19)
                    have h145_21 := (congrFun eμ21 145).trans ((va_up_ne _ _ (by omega)).trans h145_19)
                    have h146_21 := (congrFun eμ21 146).trans ((va_up_ne _ _ (by omega)).trans h146_19)
                    have h147_21 := (congrFun eμ21 147).trans ((va_up_ne _ _ (by omega)).trans h147_19)
                    have h148_21 := (congrFun eμ21 148).trans ((va_up_ne _ _ (by omega)).trans h148_19)
                    refine lv_iinc (v := ((nI (i + 1)))) (lv' := [(1, .int (nI (i + 1))), (0, .ref (xa cx 136))]) hx hb dX5_lane_182 hl (k := 1) rfl (nI_add _ _) (by decide) rfl (fun ls hl => ?_)
                    refine lv_goto (tgt := 43) hx hb dX5_lane_185 (by decide) ?_
                    exact ih43 (i + 1) _ _ μ21 _ _ _ (by omega) h138_21 h137_21 (fun z h1 h2 => by rw [eμ21, va_up_ne _ _ (by omega)]; rw [eμ19, va_up_ne _ _ (by omega)]; rw [eμ13, va_up_ne _ _ (by omega)]; rw [eμ12, va_up_ne _ _ (by omega)]; rw [eμ11, va_up_ne _ _ (by omega)]; rw [eμ10, va_up_ne _ _ (by omega)]; exact hro z h1 h2) (rdM_step hrm (by omega) (by first | (rw [if_pos (by omega)]; done) | (rw [if_neg (by omega)]; done)) (by first | (rw [if_pos (by omega)]; done) | (rw [if_neg (by omega)]; done))) hW (lv_sub hl [1, 0] rfl)
                  · skip
                    refine lv_iconst (v := nI 0) hx hb dX5_lane_167 (by decide) ?_
                    refine lv_goto (tgt := 181) hx hb dX5_lane_168 (by decide) ?_
                    refine nv_iastN F hW (by omega) h138_19 (by omega) (by decide) dX5_lane_181 (fun H locs hW => ?_)
                    obtain ⟨μ22, eμ22⟩ : ∃ zz9 : ME, zz9 = va_up μ19 138 (.inl (xT cx 0, 62, .inl (upd (upd (upd (upd (upd qa (0 + i) ((nI (tk (At S) i)))) (6 + i) ((nI (ts (At S) i)))) (12 + i) ((nI (td (At S) i)))) (18 + i) ((nI 0))) (24 + i) ((nI 0))))) := ⟨_, rfl⟩
                    have hW : St cx s μ22 H locs := by rw [eμ22]; exact hW
                    have h136_22 := (congrFun eμ22 136).trans ((va_up_ne _ _ (by omega)).trans h136_19)
                    have h137_22 := (congrFun eμ22 137).trans ((va_up_ne _ _ (by omega)).trans h137_19)
                    have h138_22 : μ22 138 = .inl (xT cx 0, 62, .inl (upd (upd (upd (upd (upd qa (0 + i) ((nI (tk (At S) i)))) (6 + i) ((nI (ts (At S) i)))) (12 + i) ((nI (td (At S) i)))) (18 + i) ((nI 0))) (24 + i) ((nI 0)))) := by rw [eμ22, va_up_self]
                    have h139_22 := (congrFun eμ22 139).trans ((va_up_ne _ _ (by omega)).trans h139_19)
                    have h140_22 := (congrFun eμ22 140).trans ((va_up_ne _ _ (by omega)).trans h140_19)
                    have h141_22 := (congrFun eμ22 141).trans ((va_up_ne _ _ (by omega)).trans h141_19)
                    have h142_22 := (congrFun eμ22 142).trans ((va_up_ne _ _ (by omega)).trans h142_19)
                    have h143_22 := (congrFun eμ22 143).trans ((va_up_ne _ _ (by omega)).trans h143_19)
                    have h144_22 := (congrFun eμ22 144).trans ((va_up_ne _ _ (by omega)).trans h144_19)
                    have h145_22 := (congrFun eμ22 145).trans ((va_up_ne _ _ (by omega)).trans h145_19)
                    have h146_22 := (congrFun eμ22 146).trans ((va_up_ne _ _ (by omega)).trans h146_19)
                    have h147_22 := (congrFun eμ22 147).trans ((va_up_ne _ _ (by omega)).trans h147_19)
                    have h148_22 := (congrFun eμ22 148).trans ((va_up_ne _ _ (by omega)).trans h148_19)
                    refine lv_iinc (v := ((nI (i + 1)))) (lv' := [(1, .int (nI (i + 1))), (0, .ref (xa cx 136))]) hx hb dX5_lane_182 hl (k := 1) rfl (nI_add _ _) (by decide) rfl (fun ls hl => ?_)
                    refine lv_goto (tgt := 43) hx hb dX5_lane_185 (by decide) ?_
                    exact ih43 (i + 1) _ _ μ22 _ _ _ (by omega) h138_22 h137_22 (fun z h1 h2 => by rw [eμ22, va_up_ne _ _ (by omega)]; rw [eμ19, va_up_ne _ _ (by omega)]; rw [eμ13, va_up_ne _ _ (by omega)]; rw [eμ12, va_up_ne _ _ (by omega)]; rw [eμ11, va_up_ne _ _ (by omega)]; rw [eμ10, va_up_ne _ _ (by omega)]; exact hro z h1 h2) (rdM_step hrm (by omega) (by first | (rw [if_pos (by omega)]; done) | (rw [if_neg (by omega)]; done)) (by first | (rw [if_pos (by omega)]; done) | (rw [if_neg (by omega)]; done))) hW (lv_sub hl [1, 0] rfl)
          exact LOOP43 (An S / 5) 0 _ _ μ1 _ _ _ (by omega) hq k137 (fun _ _ _ => rfl) ⟨fun z hz => absurd hz (by omega), hq1 30 (by omega)⟩ hW (lv_sub hl [1, 0] rfl)
        · skip
          exact absurd c_4 (by omega)
      | succ d ih =>
        intro i q μ1 H locs ls hid hq hqo hq1 hW hl
        have k136 := (hqo 136 (by omega)).trans h136_3
        have k137 := (hqo 137 (by omega)).trans h137_3
        have k139 := (hqo 139 (by omega)).trans h139_3
        have k140 := (hqo 140 (by omega)).trans h140_3
        have k141 := (hqo 141 (by omega)).trans h141_3
        have k142 := (hqo 142 (by omega)).trans h142_3
        have k143 := (hqo 143 (by omega)).trans h143_3
        have k144 := (hqo 144 (by omega)).trans h144_3
        have k145 := (hqo 145 (by omega)).trans h145_3
        have k146 := (hqo 146 (by omega)).trans h146_3
        have k147 := (hqo 147 (by omega)).trans h147_3
        have k148 := (hqo 148 (by omega)).trans h148_3
        refine lv_iload_n hx hb dX5_lane_22 rfl (lv_at hl 1 rfl) ?_
        refine lv_bipush (v := nI 31) hx hb dX5_lane_23 (by decide) ?_
        refine nv_cge (tgt := 41) F (by omega) (by omega) dX5_lane_25 (by decide) (fun c_23 => ?_) (fun c_23 => ?_)
        · skip
          exact absurd c_23 (by omega)
        · skip
          refine lv_aload_n hx hb dX5_lane_28 rfl (lv_at hl 0 rfl) ?_
          refine nv_get F hW (by omega) k136 rfl iX5 2 (by decide) tw_631 rfl dX5_lane_29 ?_
          refine lv_iload_n hx hb dX5_lane_32 rfl (lv_at hl 1 rfl) ?_
          refine lv_iconst (v := nI 0) hx hb dX5_lane_33 (by decide) ?_
          refine nv_iastN F hW (by omega) hq (by omega) (by decide) dX5_lane_34 (fun H locs hW => ?_)
          obtain ⟨μ24, eμ24⟩ : ∃ zz9 : ME, zz9 = va_up μ1 138 (.inl (xT cx 0, 62, .inl (upd q i ((nI 0))))) := ⟨_, rfl⟩
          have hW : St cx s μ24 H locs := by rw [eμ24]; exact hW
          have h136_24 := (congrFun eμ24 136).trans ((va_up_ne _ _ (by omega)).trans k136)
          have h137_24 := (congrFun eμ24 137).trans ((va_up_ne _ _ (by omega)).trans k137)
          have h138_24 : μ24 138 = .inl (xT cx 0, 62, .inl (upd q i ((nI 0)))) := by rw [eμ24, va_up_self]
          have h139_24 := (congrFun eμ24 139).trans ((va_up_ne _ _ (by omega)).trans k139)
          have h140_24 := (congrFun eμ24 140).trans ((va_up_ne _ _ (by omega)).trans k140)
          have h141_24 := (congrFun eμ24 141).trans ((va_up_ne _ _ (by omega)).trans k141)
          have h142_24 := (congrFun eμ24 142).trans ((va_up_ne _ _ (by omega)).trans k142)
          have h143_24 := (congrFun eμ24 143).trans ((va_up_ne _ _ (by omega)).trans k143)
          have h144_24 := (congrFun eμ24 144).trans ((va_up_ne _ _ (by omega)).trans k144)
          have h145_24 := (congrFun eμ24 145).trans ((va_up_ne _ _ (by omega)).trans k145)
          have h146_24 := (congrFun eμ24 146).trans ((va_up_ne _ _ (by omega)).trans k146)
          have h147_24 := (congrFun eμ24 147).trans ((va_up_ne _ _ (by omega)).trans k147)
          have h148_24 := (congrFun eμ24 148).trans ((va_up_ne _ _ (by omega)).trans k148)
          refine lv_iinc (v := ((nI (i + 1)))) (lv' := [(1, .int (nI (i + 1))), (0, .ref (xa cx 136))]) hx hb dX5_lane_35 hl (k := 1) rfl (nI_add _ _) (by decide) rfl (fun ls hl => ?_)
          refine lv_goto (tgt := 22) hx hb dX5_lane_38 (by decide) ?_
          exact ih (i + 1) _ μ24 _ _ _ (by omega) h138_24 (fun z hz => ((congrFun eμ24 z).trans (va_up_ne _ _ hz)).trans (hqo z hz)) (fun z hz => (Nat.lt_or_ge z i).elim (fun a => by rw [upd_ne (by omega)]; exact hq1 z a) (fun a => by rw [upd_eq (by omega)])) hW (lv_sub hl [1, 0] rfl)
    exact LOOP 31 0 _ μ3 _ _ _ (by omega) h138_3 (fun _ _ => rfl) (fun z hz => absurd hz (by omega)) hW (lv_sub hl [1, 0] rfl)
  · skip
    refine lv_bipush (v := (-3)) hx hb dX5_lane_9 (by decide) ?_
    exact rt_ie F hr hlk hW (by unfold r_lane; rw [if_neg (by assumption)]) ⟨by unfold s_lane; rw [if_neg (by assumption)]; exact (modX_tr hX_r (fun _ _ => trivial)), (fun z hz => by rw [ho_r z (by omega)])⟩ dX5_lane_11
