theorem cpy_in {f g : Nat → Int32} {i n : Nat} (h : i < n) : va_cpy f g 0 0 n i = f i := by
  rw [pk_cpy_in (by omega) (by omega)]
  simp
theorem lstI_of {L : LN} {x : Int32} (h : lstI L x = true) (hn : Ln L < 2147483648) : ∃ t, t < Ln L ∧ lst L t = true ∧ x = nI t := by
  have h2 := h
  unfold lstI at h2
  simp only [Bool.and_eq_true] at h2
  obtain ⟨t, ht, rfl⟩ := inR_of h2.1 hn
  exact ⟨t, ht, by rw [lstI_nI (by omega)] at h; exact h, rfl⟩
def loose (L : LN) (h : Nat) : Bool := decide (Lk L h ≠ 2) && !(decide (Ld L h = 2) || lsst L h)
theorem lfall_def (L : LN) (h : Nat) : lfall L h = (lst L h && (loose L h || decide (3 * Lg L h < lgr L h))) := rfl
theorem loose_k {L : LN} {i : Nat} (h : Lk L i = 2) : loose L i = false := by
  unfold loose
  simp [h]
theorem loose_m {L : LN} {i : Nat} {x : Int32} (ex : x = supI (Ld L i) i) (hd : Ld L i ≤ 3) (hi : i < 6) (h : x = -2) : loose L i = false := by
  rw [ex, sup_monk hd (by omega)] at h
  unfold loose
  simp [h]
theorem loose_s {L : LN} {i : Nat} {x : Int32} (ex : x = supI (Ld L i) i) (hi : i < 6) (h : lstI L x = true) : loose L i = false := by
  rw [ex, sup_st (by omega)] at h
  unfold loose
  simp [h]
theorem loose_t {L : LN} {i : Nat} {x : Int32} (ex : x = supI (Ld L i) i) (hd : Ld L i ≤ 3) (hi : i < 6) (h1 : ¬ Lk L i = 2) (h2 : ¬ x = -2) (h3 : lstI L x = false) : loose L i = true := by
  rw [ex, sup_monk hd (by omega)] at h2
  rw [ex, sup_st (by omega)] at h3
  unfold loose
  simp [h1, h2, h3]
theorem U_hour {L : LN} {B : Nat} (hk : lok L B) : nI (LU L) &&& (nI (hF L) ^^^ (-1)) = nI (LU (hour L)) := by
  rw [andnot _ (lok_U hk) _ (hF_lt hk.1)]
  congr 1
  show _ = bitsOf _ (Ln L)
  have hz : ∀ i, Ln L ≤ i → (LU L).testBit i = false := fun i hi => Nat.testBit_lt_two_pow (Nat.lt_of_lt_of_le hk.2.1 (Nat.pow_le_pow_right (by decide) hi))
  apply Nat.eq_of_testBit_eq
  intro i
  rw [testBit_bitsOf, testBit_bitsOf]
  by_cases hi : i < Ln L
  · have := hk.1
    rw [decide_eq_true hi, decide_eq_true (show i < 6 by omega)]
    unfold lst
    rw [decide_eq_true hi]
    simp
  · rw [hz i (by omega), decide_eq_false hi]
    simp

set_option maxHeartbeats 4000000 in
set_option maxRecDepth 100000 in
theorem c_copyFrom {cx : CX} (hI : xI cx) (l : Launch) {μ : ME} {b a : Nat} {L0 L : LN} (hb7 : b + 7 ≤ xN cx) (ha7 : a + 7 ≤ xN cx) (hab : b + 7 ≤ a ∨ a + 7 ≤ b) (hL0 : laneR cx μ b L0) (hL : laneR cx μ a L) (hn6 : Ln L ≤ 6) : MT cx l yX0_copyFrom cX0_copyFrom 2 none 1 72 [.ref (xa cx b), .ref (xa cx a)] μ (Qv cx (fun μ1 => laneR cx μ1 b L ∧ off b 7 μ μ1)) := by
  refine mt_of hI (by decide) (Nat.le_of_ble_eq_true rfl) ?_
  intro p e s m below meth c ls F hr hlk hW hl
  have hx := F.1.1
  have hb := F.1.2.1
  have hts := F.1.2.2.2.2
  obtain ⟨fk, fs, fg, fd, fl, fc, h0, h1, h2, h3, h4, h5, h6, hv, hv2⟩ := id hL0
  obtain ⟨fko, fso, fgo, fdo, flo, fco, h0o, h1o, h2o, h3o, h4o, h5o, h6o, hvo, hv2o⟩ := id hL
  have hl : lv_has ls 2 [(0, .ref (xa cx b)), (1, .ref (xa cx a))] := hl
  refine lv_aload_n hx hb dX0_copyFrom_0 rfl (lv_at hl 1 rfl) ?_
  refine nv_get F hW (by omega) h0o rfl iX0 0 (by decide) tw_81 rfl dX0_copyFrom_1 ?_
  refine lv_iconst (v := nI 0) hx hb dX0_copyFrom_4 (by decide) ?_
  refine lv_aload_n hx hb dX0_copyFrom_5 rfl (lv_at hl 0 rfl) ?_
  refine nv_get F hW (by omega) h0 rfl iX0 0 (by decide) tw_81 rfl dX0_copyFrom_6 ?_
  refine lv_iconst (v := nI 0) hx hb dX0_copyFrom_9 (by decide) ?_
  refine lv_bipush (v := nI 6) hx hb dX0_copyFrom_10 (by decide) ?_
  refine nv_copy F hW hl.1 tw_302 tw_304 tw_303 tw_51 (by omega) (by omega) h1o h1 (by omega) (by omega) (by omega) (Nat.le_of_ble_eq_true rfl) (Nat.le_of_ble_eq_true rfl) dX0_copyFrom_12 (fun H locs hW => ?_)
  obtain ⟨μ1, eμ1⟩ : ∃ z : ME, z = va_up μ (b + 1) (.inl (xT cx 0, 6, .inl (va_cpy fko fk 0 0 6))) := ⟨_, rfl⟩
  have hW : St cx s μ1 H locs := by rw [eμ1]; exact hW
  have hb_1 := (congrFun eμ1 b).trans ((va_up_ne _ _ (by omega)).trans h0)
  have hb_1_1 : μ1 (b + 1) = .inl (xT cx 0, 6, .inl (va_cpy fko fk 0 0 6)) := by rw [eμ1, va_up_self]
  have hb_2_1 := (congrFun eμ1 (b + 2)).trans ((va_up_ne _ _ (by omega)).trans h2)
  have hb_3_1 := (congrFun eμ1 (b + 3)).trans ((va_up_ne _ _ (by omega)).trans h3)
  have hb_4_1 := (congrFun eμ1 (b + 4)).trans ((va_up_ne _ _ (by omega)).trans h4)
  have hb_5_1 := (congrFun eμ1 (b + 5)).trans ((va_up_ne _ _ (by omega)).trans h5)
  have hb_6_1 := (congrFun eμ1 (b + 6)).trans ((va_up_ne _ _ (by omega)).trans h6)
  have ha_1 := (congrFun eμ1 a).trans ((va_up_ne _ _ (by omega)).trans h0o)
  have ha_1_1 := (congrFun eμ1 (a + 1)).trans ((va_up_ne _ _ (by omega)).trans h1o)
  have ha_2_1 := (congrFun eμ1 (a + 2)).trans ((va_up_ne _ _ (by omega)).trans h2o)
  have ha_3_1 := (congrFun eμ1 (a + 3)).trans ((va_up_ne _ _ (by omega)).trans h3o)
  have ha_4_1 := (congrFun eμ1 (a + 4)).trans ((va_up_ne _ _ (by omega)).trans h4o)
  have ha_5_1 := (congrFun eμ1 (a + 5)).trans ((va_up_ne _ _ (by omega)).trans h5o)
  have ha_6_1 := (congrFun eμ1 (a + 6)).trans ((va_up_ne _ _ (by omega)).trans h6o)
  refine lv_aload_n hx hb dX0_copyFrom_15 rfl (lv_at hl 1 rfl) ?_
  refine nv_get F hW (by omega) ha_1 rfl iX0 1 (by decide) tw_82 rfl dX0_copyFrom_16 ?_
  refine lv_iconst (v := nI 0) hx hb dX0_copyFrom_19 (by decide) ?_
  refine lv_aload_n hx hb dX0_copyFrom_20 rfl (lv_at hl 0 rfl) ?_
  refine nv_get F hW (by omega) hb_1 rfl iX0 1 (by decide) tw_82 rfl dX0_copyFrom_21 ?_
  refine lv_iconst (v := nI 0) hx hb dX0_copyFrom_24 (by decide) ?_
  refine lv_bipush (v := nI 6) hx hb dX0_copyFrom_25 (by decide) ?_
  refine nv_copy F hW hl.1 tw_302 tw_304 tw_303 tw_51 (by omega) (by omega) ha_2_1 hb_2_1 (by omega) (by omega) (by omega) (Nat.le_of_ble_eq_true rfl) (Nat.le_of_ble_eq_true rfl) dX0_copyFrom_27 (fun H locs hW => ?_)
  obtain ⟨μ2, eμ2⟩ : ∃ z : ME, z = va_up μ1 (b + 2) (.inl (xT cx 0, 6, .inl (va_cpy fso fs 0 0 6))) := ⟨_, rfl⟩
  have hW : St cx s μ2 H locs := by rw [eμ2]; exact hW
  have hb_2 := (congrFun eμ2 b).trans ((va_up_ne _ _ (by omega)).trans hb_1)
  have hb_1_2 := (congrFun eμ2 (b + 1)).trans ((va_up_ne _ _ (by omega)).trans hb_1_1)
  have hb_2_2 : μ2 (b + 2) = .inl (xT cx 0, 6, .inl (va_cpy fso fs 0 0 6)) := by rw [eμ2, va_up_self]
  have hb_3_2 := (congrFun eμ2 (b + 3)).trans ((va_up_ne _ _ (by omega)).trans hb_3_1)
  have hb_4_2 := (congrFun eμ2 (b + 4)).trans ((va_up_ne _ _ (by omega)).trans hb_4_1)
  have hb_5_2 := (congrFun eμ2 (b + 5)).trans ((va_up_ne _ _ (by omega)).trans hb_5_1)
  have hb_6_2 := (congrFun eμ2 (b + 6)).trans ((va_up_ne _ _ (by omega)).trans hb_6_1)
  have ha_2 := (congrFun eμ2 a).trans ((va_up_ne _ _ (by omega)).trans ha_1)
  have ha_1_2 := (congrFun eμ2 (a + 1)).trans ((va_up_ne _ _ (by omega)).trans ha_1_1)
  have ha_2_2 := (congrFun eμ2 (a + 2)).trans ((va_up_ne _ _ (by omega)).trans ha_2_1)
  have ha_3_2 := (congrFun eμ2 (a + 3)).trans ((va_up_ne _ _ (by omega)).trans ha_3_1)
  have ha_4_2 := (congrFun eμ2 (a + 4)).trans ((va_up_ne _ _ (by omega)).trans ha_4_1)
  have ha_5_2 := (congrFun eμ2 (a + 5)).trans ((va_up_ne _ _ (by omega)).trans ha_5_1)
  have ha_6_2 := (congrFun eμ2 (a + 6)).trans ((va_up_ne _ _ (by omega)).trans ha_6_1)
  refine lv_aload_n hx hb dX0_copyFrom_30 rfl (lv_at hl 1 rfl) ?_
  refine nv_get F hW (by omega) ha_2 rfl iX0 2 (by decide) tw_83 rfl dX0_copyFrom_31 ?_
  refine lv_iconst (v := nI 0) hx hb dX0_copyFrom_34 (by decide) ?_
  refine lv_aload_n hx hb dX0_copyFrom_35 rfl (lv_at hl 0 rfl) ?_
  refine nv_get F hW (by omega) hb_2 rfl iX0 2 (by decide) tw_83 rfl dX0_copyFrom_36 ?_
  refine lv_iconst (v := nI 0) hx hb dX0_copyFrom_39 (by decide) ?_
  refine lv_bipush (v := nI 6) hx hb dX0_copyFrom_40 (by decide) ?_
  refine nv_copy F hW hl.1 tw_302 tw_304 tw_303 tw_51 (by omega) (by omega) ha_3_2 hb_3_2 (by omega) (by omega) (by omega) (Nat.le_of_ble_eq_true rfl) (Nat.le_of_ble_eq_true rfl) dX0_copyFrom_42 (fun H locs hW => ?_)
  obtain ⟨μ3, eμ3⟩ : ∃ z : ME, z = va_up μ2 (b + 3) (.inl (xT cx 0, 6, .inl (va_cpy fgo fg 0 0 6))) := ⟨_, rfl⟩
  have hW : St cx s μ3 H locs := by rw [eμ3]; exact hW
  have hb_3 := (congrFun eμ3 b).trans ((va_up_ne _ _ (by omega)).trans hb_2)
  have hb_1_3 := (congrFun eμ3 (b + 1)).trans ((va_up_ne _ _ (by omega)).trans hb_1_2)
  have hb_2_3 := (congrFun eμ3 (b + 2)).trans ((va_up_ne _ _ (by omega)).trans hb_2_2)
  have hb_3_3 : μ3 (b + 3) = .inl (xT cx 0, 6, .inl (va_cpy fgo fg 0 0 6)) := by rw [eμ3, va_up_self]
  have hb_4_3 := (congrFun eμ3 (b + 4)).trans ((va_up_ne _ _ (by omega)).trans hb_4_2)
  have hb_5_3 := (congrFun eμ3 (b + 5)).trans ((va_up_ne _ _ (by omega)).trans hb_5_2)
  have hb_6_3 := (congrFun eμ3 (b + 6)).trans ((va_up_ne _ _ (by omega)).trans hb_6_2)
  have ha_3 := (congrFun eμ3 a).trans ((va_up_ne _ _ (by omega)).trans ha_2)
  have ha_1_3 := (congrFun eμ3 (a + 1)).trans ((va_up_ne _ _ (by omega)).trans ha_1_2)
  have ha_2_3 := (congrFun eμ3 (a + 2)).trans ((va_up_ne _ _ (by omega)).trans ha_2_2)
  have ha_3_3 := (congrFun eμ3 (a + 3)).trans ((va_up_ne _ _ (by omega)).trans ha_3_2)
  have ha_4_3 := (congrFun eμ3 (a + 4)).trans ((va_up_ne _ _ (by omega)).trans ha_4_2)
  have ha_5_3 := (congrFun eμ3 (a + 5)).trans ((va_up_ne _ _ (by omega)).trans ha_5_2)
  have ha_6_3 := (congrFun eμ3 (a + 6)).trans ((va_up_ne _ _ (by omega)).trans ha_6_2)
  refine lv_aload_n hx hb dX0_copyFrom_45 rfl (lv_at hl 1 rfl) ?_
  refine nv_get F hW (by omega) ha_3 rfl iX0 3 (by decide) tw_84 rfl dX0_copyFrom_46 ?_
  refine lv_iconst (v := nI 0) hx hb dX0_copyFrom_49 (by decide) ?_
  refine lv_aload_n hx hb dX0_copyFrom_50 rfl (lv_at hl 0 rfl) ?_
  refine nv_get F hW (by omega) hb_3 rfl iX0 3 (by decide) tw_84 rfl dX0_copyFrom_51 ?_
  refine lv_iconst (v := nI 0) hx hb dX0_copyFrom_54 (by decide) ?_
  refine lv_bipush (v := nI 6) hx hb dX0_copyFrom_55 (by decide) ?_
  refine nv_copy F hW hl.1 tw_302 tw_304 tw_303 tw_51 (by omega) (by omega) ha_4_3 hb_4_3 (by omega) (by omega) (by omega) (Nat.le_of_ble_eq_true rfl) (Nat.le_of_ble_eq_true rfl) dX0_copyFrom_57 (fun H locs hW => ?_)
  obtain ⟨μ4, eμ4⟩ : ∃ z : ME, z = va_up μ3 (b + 4) (.inl (xT cx 0, 6, .inl (va_cpy fdo fd 0 0 6))) := ⟨_, rfl⟩
  have hW : St cx s μ4 H locs := by rw [eμ4]; exact hW
  have hb_4 := (congrFun eμ4 b).trans ((va_up_ne _ _ (by omega)).trans hb_3)
  have hb_1_4 := (congrFun eμ4 (b + 1)).trans ((va_up_ne _ _ (by omega)).trans hb_1_3)
  have hb_2_4 := (congrFun eμ4 (b + 2)).trans ((va_up_ne _ _ (by omega)).trans hb_2_3)
  have hb_3_4 := (congrFun eμ4 (b + 3)).trans ((va_up_ne _ _ (by omega)).trans hb_3_3)
  have hb_4_4 : μ4 (b + 4) = .inl (xT cx 0, 6, .inl (va_cpy fdo fd 0 0 6)) := by rw [eμ4, va_up_self]
  have hb_5_4 := (congrFun eμ4 (b + 5)).trans ((va_up_ne _ _ (by omega)).trans hb_5_3)
  have hb_6_4 := (congrFun eμ4 (b + 6)).trans ((va_up_ne _ _ (by omega)).trans hb_6_3)
  have ha_4 := (congrFun eμ4 a).trans ((va_up_ne _ _ (by omega)).trans ha_3)
  have ha_1_4 := (congrFun eμ4 (a + 1)).trans ((va_up_ne _ _ (by omega)).trans ha_1_3)
  have ha_2_4 := (congrFun eμ4 (a + 2)).trans ((va_up_ne _ _ (by omega)).trans ha_2_3)
  have ha_3_4 := (congrFun eμ4 (a + 3)).trans ((va_up_ne _ _ (by omega)).trans ha_3_3)
  have ha_4_4 := (congrFun eμ4 (a + 4)).trans ((va_up_ne _ _ (by omega)).trans ha_4_3)
  have ha_5_4 := (congrFun eμ4 (a + 5)).trans ((va_up_ne _ _ (by omega)).trans ha_5_3)
  have ha_6_4 := (congrFun eμ4 (a + 6)).trans ((va_up_ne _ _ (by omega)).trans ha_6_3)
  refine lv_aload_n hx hb dX0_copyFrom_60 rfl (lv_at hl 1 rfl) ?_
  refine nv_get F hW (by omega) ha_4 rfl iX0 4 (by decide) tw_85 rfl dX0_copyFrom_61 ?_
  refine lv_iconst (v := nI 0) hx hb dX0_copyFrom_64 (by decide) ?_
  refine lv_aload_n hx hb dX0_copyFrom_65 rfl (lv_at hl 0 rfl) ?_
  refine nv_get F hW (by omega) hb_4 rfl iX0 4 (by decide) tw_85 rfl dX0_copyFrom_66 ?_
  refine lv_iconst (v := nI 0) hx hb dX0_copyFrom_69 (by decide) ?_
  refine lv_bipush (v := nI 6) hx hb dX0_copyFrom_70 (by decide) ?_
  refine nv_copy F hW hl.1 tw_302 tw_304 tw_303 tw_51 (by omega) (by omega) ha_5_4 hb_5_4 (by omega) (by omega) (by omega) (Nat.le_of_ble_eq_true rfl) (Nat.le_of_ble_eq_true rfl) dX0_copyFrom_72 (fun H locs hW => ?_)
  obtain ⟨μ5, eμ5⟩ : ∃ z : ME, z = va_up μ4 (b + 5) (.inl (xT cx 0, 6, .inl (va_cpy flo fl 0 0 6))) := ⟨_, rfl⟩
  have hW : St cx s μ5 H locs := by rw [eμ5]; exact hW
  have hb_5 := (congrFun eμ5 b).trans ((va_up_ne _ _ (by omega)).trans hb_4)
  have hb_1_5 := (congrFun eμ5 (b + 1)).trans ((va_up_ne _ _ (by omega)).trans hb_1_4)
  have hb_2_5 := (congrFun eμ5 (b + 2)).trans ((va_up_ne _ _ (by omega)).trans hb_2_4)
  have hb_3_5 := (congrFun eμ5 (b + 3)).trans ((va_up_ne _ _ (by omega)).trans hb_3_4)
  have hb_4_5 := (congrFun eμ5 (b + 4)).trans ((va_up_ne _ _ (by omega)).trans hb_4_4)
  have hb_5_5 : μ5 (b + 5) = .inl (xT cx 0, 6, .inl (va_cpy flo fl 0 0 6)) := by rw [eμ5, va_up_self]
  have hb_6_5 := (congrFun eμ5 (b + 6)).trans ((va_up_ne _ _ (by omega)).trans hb_6_4)
  have ha_5 := (congrFun eμ5 a).trans ((va_up_ne _ _ (by omega)).trans ha_4)
  have ha_1_5 := (congrFun eμ5 (a + 1)).trans ((va_up_ne _ _ (by omega)).trans ha_1_4)
  have ha_2_5 := (congrFun eμ5 (a + 2)).trans ((va_up_ne _ _ (by omega)).trans ha_2_4)
  have ha_3_5 := (congrFun eμ5 (a + 3)).trans ((va_up_ne _ _ (by omega)).trans ha_3_4)
  have ha_4_5 := (congrFun eμ5 (a + 4)).trans ((va_up_ne _ _ (by omega)).trans ha_4_4)
  have ha_5_5 := (congrFun eμ5 (a + 5)).trans ((va_up_ne _ _ (by omega)).trans ha_5_4)
  have ha_6_5 := (congrFun eμ5 (a + 6)).trans ((va_up_ne _ _ (by omega)).trans ha_6_4)
  refine lv_aload_n hx hb dX0_copyFrom_75 rfl (lv_at hl 0 rfl) ?_
  refine lv_aload_n hx hb dX0_copyFrom_76 rfl (lv_at hl 1 rfl) ?_
  refine nv_get F hW (by omega) ha_5 rfl iX0 6 (by decide) tw_87 rfl dX0_copyFrom_77 ?_
  refine nv_put F hW (by omega) hb_5 rfl iX0 tyX0 tyX0_ok nmX0 6 (by decide) tw_87 rfl rfl rfl (Nat.le_of_ble_eq_true rfl) dX0_copyFrom_80 (fun H locs hW => ?_)
  obtain ⟨μ6, eμ6⟩ : ∃ z : ME, z = va_up μ5 b (.inr (0, [.ref (xa cx (b + 1)), .ref (xa cx (b + 2)), .ref (xa cx (b + 3)), .ref (xa cx (b + 4)), .ref (xa cx (b + 5)), .ref (xa cx (b + 6)), .int (nI (Ln L)), .int (nI (LU L0)), .int (nI (Lh L0))])) := ⟨_, rfl⟩
  have hW : St cx s μ6 H locs := by rw [eμ6]; exact hW
  have hb_6 : μ6 b = .inr (0, [.ref (xa cx (b + 1)), .ref (xa cx (b + 2)), .ref (xa cx (b + 3)), .ref (xa cx (b + 4)), .ref (xa cx (b + 5)), .ref (xa cx (b + 6)), .int (nI (Ln L)), .int (nI (LU L0)), .int (nI (Lh L0))]) := by rw [eμ6, va_up_self]
  have hb_1_6 := (congrFun eμ6 (b + 1)).trans ((va_up_ne _ _ (by omega)).trans hb_1_5)
  have hb_2_6 := (congrFun eμ6 (b + 2)).trans ((va_up_ne _ _ (by omega)).trans hb_2_5)
  have hb_3_6 := (congrFun eμ6 (b + 3)).trans ((va_up_ne _ _ (by omega)).trans hb_3_5)
  have hb_4_6 := (congrFun eμ6 (b + 4)).trans ((va_up_ne _ _ (by omega)).trans hb_4_5)
  have hb_5_6 := (congrFun eμ6 (b + 5)).trans ((va_up_ne _ _ (by omega)).trans hb_5_5)
  have hb_6_6 := (congrFun eμ6 (b + 6)).trans ((va_up_ne _ _ (by omega)).trans hb_6_5)
  have ha_6 := (congrFun eμ6 a).trans ((va_up_ne _ _ (by omega)).trans ha_5)
  have ha_1_6 := (congrFun eμ6 (a + 1)).trans ((va_up_ne _ _ (by omega)).trans ha_1_5)
  have ha_2_6 := (congrFun eμ6 (a + 2)).trans ((va_up_ne _ _ (by omega)).trans ha_2_5)
  have ha_3_6 := (congrFun eμ6 (a + 3)).trans ((va_up_ne _ _ (by omega)).trans ha_3_5)
  have ha_4_6 := (congrFun eμ6 (a + 4)).trans ((va_up_ne _ _ (by omega)).trans ha_4_5)
  have ha_5_6 := (congrFun eμ6 (a + 5)).trans ((va_up_ne _ _ (by omega)).trans ha_5_5)
  have ha_6_6 := (congrFun eμ6 (a + 6)).trans ((va_up_ne _ _ (by omega)).trans ha_6_5)
  refine lv_aload_n hx hb dX0_copyFrom_83 rfl (lv_at hl 0 rfl) ?_
  refine lv_aload_n hx hb dX0_copyFrom_84 rfl (lv_at hl 1 rfl) ?_
  refine nv_get F hW (by omega) ha_6 rfl iX0 7 (by decide) tw_88 rfl dX0_copyFrom_85 ?_
  refine nv_put F hW (by omega) hb_6 rfl iX0 tyX0 tyX0_ok nmX0 7 (by decide) tw_88 rfl rfl rfl (Nat.le_of_ble_eq_true rfl) dX0_copyFrom_88 (fun H locs hW => ?_)
  obtain ⟨μ7, eμ7⟩ : ∃ z : ME, z = va_up μ6 b (.inr (0, [.ref (xa cx (b + 1)), .ref (xa cx (b + 2)), .ref (xa cx (b + 3)), .ref (xa cx (b + 4)), .ref (xa cx (b + 5)), .ref (xa cx (b + 6)), .int (nI (Ln L)), .int (nI (LU L)), .int (nI (Lh L0))])) := ⟨_, rfl⟩
  have hW : St cx s μ7 H locs := by rw [eμ7]; exact hW
  have hb_7 : μ7 b = .inr (0, [.ref (xa cx (b + 1)), .ref (xa cx (b + 2)), .ref (xa cx (b + 3)), .ref (xa cx (b + 4)), .ref (xa cx (b + 5)), .ref (xa cx (b + 6)), .int (nI (Ln L)), .int (nI (LU L)), .int (nI (Lh L0))]) := by rw [eμ7, va_up_self]
  have hb_1_7 := (congrFun eμ7 (b + 1)).trans ((va_up_ne _ _ (by omega)).trans hb_1_6)
  have hb_2_7 := (congrFun eμ7 (b + 2)).trans ((va_up_ne _ _ (by omega)).trans hb_2_6)
  have hb_3_7 := (congrFun eμ7 (b + 3)).trans ((va_up_ne _ _ (by omega)).trans hb_3_6)
  have hb_4_7 := (congrFun eμ7 (b + 4)).trans ((va_up_ne _ _ (by omega)).trans hb_4_6)
  have hb_5_7 := (congrFun eμ7 (b + 5)).trans ((va_up_ne _ _ (by omega)).trans hb_5_6)
  have hb_6_7 := (congrFun eμ7 (b + 6)).trans ((va_up_ne _ _ (by omega)).trans hb_6_6)
  have ha_7 := (congrFun eμ7 a).trans ((va_up_ne _ _ (by omega)).trans ha_6)
  have ha_1_7 := (congrFun eμ7 (a + 1)).trans ((va_up_ne _ _ (by omega)).trans ha_1_6)
  have ha_2_7 := (congrFun eμ7 (a + 2)).trans ((va_up_ne _ _ (by omega)).trans ha_2_6)
  have ha_3_7 := (congrFun eμ7 (a + 3)).trans ((va_up_ne _ _ (by omega)).trans ha_3_6)
  have ha_4_7 := (congrFun eμ7 (a + 4)).trans ((va_up_ne _ _ (by omega)).trans ha_4_6)
  have ha_5_7 := (congrFun eμ7 (a + 5)).trans ((va_up_ne _ _ (by omega)).trans ha_5_6)
  have ha_6_7 := (congrFun eμ7 (a + 6)).trans ((va_up_ne _ _ (by omega)).trans ha_6_6)
  refine lv_aload_n hx hb dX0_copyFrom_91 rfl (lv_at hl 0 rfl) ?_
  refine lv_aload_n hx hb dX0_copyFrom_92 rfl (lv_at hl 1 rfl) ?_
  refine nv_get F hW (by omega) ha_7 rfl iX0 8 (by decide) tw_89 rfl dX0_copyFrom_93 ?_
  refine nv_put F hW (by omega) hb_7 rfl iX0 tyX0 tyX0_ok nmX0 8 (by decide) tw_89 rfl rfl rfl (Nat.le_of_ble_eq_true rfl) dX0_copyFrom_96 (fun H locs hW => ?_)
  obtain ⟨μ8, eμ8⟩ : ∃ z : ME, z = va_up μ7 b (.inr (0, [.ref (xa cx (b + 1)), .ref (xa cx (b + 2)), .ref (xa cx (b + 3)), .ref (xa cx (b + 4)), .ref (xa cx (b + 5)), .ref (xa cx (b + 6)), .int (nI (Ln L)), .int (nI (LU L)), .int (nI (Lh L))])) := ⟨_, rfl⟩
  have hW : St cx s μ8 H locs := by rw [eμ8]; exact hW
  have hb_8 : μ8 b = .inr (0, [.ref (xa cx (b + 1)), .ref (xa cx (b + 2)), .ref (xa cx (b + 3)), .ref (xa cx (b + 4)), .ref (xa cx (b + 5)), .ref (xa cx (b + 6)), .int (nI (Ln L)), .int (nI (LU L)), .int (nI (Lh L))]) := by rw [eμ8, va_up_self]
  have hb_1_8 := (congrFun eμ8 (b + 1)).trans ((va_up_ne _ _ (by omega)).trans hb_1_7)
  have hb_2_8 := (congrFun eμ8 (b + 2)).trans ((va_up_ne _ _ (by omega)).trans hb_2_7)
  have hb_3_8 := (congrFun eμ8 (b + 3)).trans ((va_up_ne _ _ (by omega)).trans hb_3_7)
  have hb_4_8 := (congrFun eμ8 (b + 4)).trans ((va_up_ne _ _ (by omega)).trans hb_4_7)
  have hb_5_8 := (congrFun eμ8 (b + 5)).trans ((va_up_ne _ _ (by omega)).trans hb_5_7)
  have hb_6_8 := (congrFun eμ8 (b + 6)).trans ((va_up_ne _ _ (by omega)).trans hb_6_7)
  have ha_8 := (congrFun eμ8 a).trans ((va_up_ne _ _ (by omega)).trans ha_7)
  have ha_1_8 := (congrFun eμ8 (a + 1)).trans ((va_up_ne _ _ (by omega)).trans ha_1_7)
  have ha_2_8 := (congrFun eμ8 (a + 2)).trans ((va_up_ne _ _ (by omega)).trans ha_2_7)
  have ha_3_8 := (congrFun eμ8 (a + 3)).trans ((va_up_ne _ _ (by omega)).trans ha_3_7)
  have ha_4_8 := (congrFun eμ8 (a + 4)).trans ((va_up_ne _ _ (by omega)).trans ha_4_7)
  have ha_5_8 := (congrFun eμ8 (a + 5)).trans ((va_up_ne _ _ (by omega)).trans ha_5_7)
  have ha_6_8 := (congrFun eμ8 (a + 6)).trans ((va_up_ne _ _ (by omega)).trans ha_6_7)
  exact rt_v F hr hlk hW ⟨⟨(va_cpy fko fk 0 0 6), (va_cpy fso fs 0 0 6), (va_cpy fgo fg 0 0 6), (va_cpy fdo fd 0 0 6), (va_cpy flo fl 0 0 6), fc, hb_8, hb_1_8, hb_2_8, hb_3_8, hb_4_8, hb_5_8, hb_6_8, fun i hi => ⟨(cpy_in (by omega)).trans (hvo i hi).1, (cpy_in (by omega)).trans (hvo i hi).2.1, (cpy_in (by omega)).trans (hvo i hi).2.2.1, (cpy_in (by omega)).trans (hvo i hi).2.2.2⟩, fun i hi => (cpy_in (by have := lst_n hi; omega)).trans (hv2o i hi)⟩, (fun z hz => by rw [eμ8, va_up_ne _ _ (by omega)]; rw [eμ7, va_up_ne _ _ (by omega)]; rw [eμ6, va_up_ne _ _ (by omega)]; rw [eμ5, va_up_ne _ _ (by omega)]; rw [eμ4, va_up_ne _ _ (by omega)]; rw [eμ3, va_up_ne _ _ (by omega)]; rw [eμ2, va_up_ne _ _ (by omega)]; rw [eμ1, va_up_ne _ _ (by omega)])⟩ dX0_copyFrom_99

set_option maxHeartbeats 4000000 in
set_option maxRecDepth 100000 in
theorem c_passLoads {cx : CX} (hI : xI cx) (l : Launch) {μ : ME} {b : Nat} {L : LN} {B : Nat} (hb7 : b + 7 ≤ xN cx) (hL : laneR cx μ b L) (hk : lok L B) (hB : B < 1000000000) : MT cx l yX0_passLoads cX0_passLoads 3 none 1 72 [.ref (xa cx b)] μ (Qv cx (fun μ1 => laneR cx μ1 b (lstep L) ∧ off b 7 μ μ1)) := by
  refine mt_of hI (by decide) (Nat.le_of_ble_eq_true rfl) ?_
  intro p e s m below meth c ls F hr hlk hW hl
  have hx := F.1.1
  have hb := F.1.2.1
  have hts := F.1.2.2.2.2
  obtain ⟨fk, fs, fg, fd, fl, fc, h0, h1, h2, h3, h4, h5, h6, hv, hv2⟩ := id hL
  have hn6 := hk.1
  have hU := lok_U hk
  have hk4 := hk.2.2.2.1
  have hl : lv_has ls 3 [(0, .ref (xa cx b))] := hl
  refine lv_aload_n hx hb dX0_passLoads_0 rfl (lv_at hl 0 rfl) ?_
  refine nv_get F hW (by omega) h0 rfl iX0 1 (by decide) tw_82 rfl dX0_passLoads_1 ?_
  refine lv_iconst (v := nI 0) hx hb dX0_passLoads_4 (by decide) ?_
  refine lv_aload_n hx hb dX0_passLoads_5 rfl (lv_at hl 0 rfl) ?_
  refine nv_get F hW (by omega) h0 rfl iX0 5 (by decide) tw_86 rfl dX0_passLoads_6 ?_
  refine lv_iconst (v := nI 0) hx hb dX0_passLoads_9 (by decide) ?_
  refine lv_aload_n hx hb dX0_passLoads_10 rfl (lv_at hl 0 rfl) ?_
  refine nv_get F hW (by omega) h0 rfl iX0 6 (by decide) tw_87 rfl dX0_passLoads_11 ?_
  refine nv_copy F hW hl.1 tw_302 tw_304 tw_303 tw_51 (by omega) (by omega) h2 h6 (by omega) (by omega) (by omega) (Nat.le_of_ble_eq_true rfl) (Nat.le_of_ble_eq_true rfl) dX0_passLoads_14 (fun H locs hW => ?_)
  obtain ⟨μ1, eμ1⟩ : ∃ z : ME, z = va_up μ (b + 6) (.inl (xT cx 0, 6, .inl (va_cpy fs fc 0 0 (Ln L)))) := ⟨_, rfl⟩
  have hW : St cx s μ1 H locs := by rw [eμ1]; exact hW
  have hb_1 := (congrFun eμ1 b).trans ((va_up_ne _ _ (by omega)).trans h0)
  have hb_1_1 := (congrFun eμ1 (b + 1)).trans ((va_up_ne _ _ (by omega)).trans h1)
  have hb_2_1 := (congrFun eμ1 (b + 2)).trans ((va_up_ne _ _ (by omega)).trans h2)
  have hb_3_1 := (congrFun eμ1 (b + 3)).trans ((va_up_ne _ _ (by omega)).trans h3)
  have hb_4_1 := (congrFun eμ1 (b + 4)).trans ((va_up_ne _ _ (by omega)).trans h4)
  have hb_5_1 := (congrFun eμ1 (b + 5)).trans ((va_up_ne _ _ (by omega)).trans h5)
  have hb_6_1 : μ1 (b + 6) = .inl (xT cx 0, 6, .inl (va_cpy fs fc 0 0 (Ln L))) := by rw [eμ1, va_up_self]
  refine lv_iconst (v := nI 0) hx hb dX0_passLoads_17 (by decide) ?_
  refine lv_istore_n (lv' := [(1, .int (nI 0)), (0, .ref (xa cx b))]) hx hb dX0_passLoads_18 rfl hl (by decide) rfl (fun ls hl => ?_)
  have LOOP : ∀ (d i : Nat) (g : Nat → Int32) (μ1 : ME) (H : Heap) (locs : List Loc) (ls : Array Slot), i + d = Ln L → (μ1 = va_up μ (b + 6) (.inl (xT cx 0, 6, .inl g))) → (∀ t, t < Ln L → g t = nI (lpart L i t)) → St cx s μ1 H locs → lv_has ls 3 [(0, .ref (xa cx b)), (1, .int (nI i))] → W p l e { frames := 1, cells := 0, slots := 0, locals := 72 } s m [.ref (xa cx b)].toArray below meth c H locs 0 0 (MQ below (Qv cx (fun μ1 => laneR cx μ1 b (lstep L) ∧ off b 7 μ μ1)) [.ref (xa cx b)].toArray s 0 0 (xA cx)) (F0 m 19 ls []) := by
    intro d
    induction d with
    | zero =>
      intro i g μ1 H locs ls hid hm hg hW hl
      have k6 := (congrFun hm (b + 6)).trans (va_up_self _ _ _)
      have k0 := (congrFun hm (b)).trans ((va_up_ne _ _ (by omega)).trans h0)
      have k1 := (congrFun hm (b + 1)).trans ((va_up_ne _ _ (by omega)).trans h1)
      have k2 := (congrFun hm (b + 2)).trans ((va_up_ne _ _ (by omega)).trans h2)
      have k3 := (congrFun hm (b + 3)).trans ((va_up_ne _ _ (by omega)).trans h3)
      have k4 := (congrFun hm (b + 4)).trans ((va_up_ne _ _ (by omega)).trans h4)
      have k5 := (congrFun hm (b + 5)).trans ((va_up_ne _ _ (by omega)).trans h5)
      have hLm : laneR cx μ1 b L := ⟨fk, fs, fg, fd, fl, g, k0, k1, k2, k3, k4, k5, k6, hv, hv2⟩
      refine lv_iload_n hx hb dX0_passLoads_19 rfl (lv_at hl 1 rfl) ?_
      refine lv_aload_n hx hb dX0_passLoads_20 rfl (lv_at hl 0 rfl) ?_
      refine nv_get F hW (by omega) k0 rfl iX0 6 (by decide) tw_87 rfl dX0_passLoads_21 ?_
      refine nv_cge (tgt := 79) F (by omega) (by omega) dX0_passLoads_24 (by decide) (fun c_2 => ?_) (fun c_2 => ?_)
      · skip
        refine lv_aload_n hx hb dX0_passLoads_79 rfl (lv_at hl 0 rfl) ?_
        refine nv_get F hW (by omega) k0 rfl iX0 5 (by decide) tw_86 rfl dX0_passLoads_80 ?_
        refine lv_iconst (v := nI 0) hx hb dX0_passLoads_83 (by decide) ?_
        refine lv_aload_n hx hb dX0_passLoads_84 rfl (lv_at hl 0 rfl) ?_
        refine nv_get F hW (by omega) k0 rfl iX0 4 (by decide) tw_85 rfl dX0_passLoads_85 ?_
        refine lv_iconst (v := nI 0) hx hb dX0_passLoads_88 (by decide) ?_
        refine lv_aload_n hx hb dX0_passLoads_89 rfl (lv_at hl 0 rfl) ?_
        refine nv_get F hW (by omega) k0 rfl iX0 6 (by decide) tw_87 rfl dX0_passLoads_90 ?_
        refine nv_copy F hW hl.1 tw_302 tw_304 tw_303 tw_51 (by omega) (by omega) k6 k5 (by omega) (by omega) (by omega) (Nat.le_of_ble_eq_true rfl) (Nat.le_of_ble_eq_true rfl) dX0_passLoads_93 (fun H locs hW => ?_)
        obtain ⟨μ3, eμ3⟩ : ∃ z : ME, z = va_up μ1 (b + 5) (.inl (xT cx 0, 6, .inl (va_cpy g fl 0 0 (Ln L)))) := ⟨_, rfl⟩
        have hW : St cx s μ3 H locs := by rw [eμ3]; exact hW
        have hb_3 := (congrFun eμ3 b).trans ((va_up_ne _ _ (by omega)).trans k0)
        have hb_1_3 := (congrFun eμ3 (b + 1)).trans ((va_up_ne _ _ (by omega)).trans k1)
        have hb_2_3 := (congrFun eμ3 (b + 2)).trans ((va_up_ne _ _ (by omega)).trans k2)
        have hb_3_3 := (congrFun eμ3 (b + 3)).trans ((va_up_ne _ _ (by omega)).trans k3)
        have hb_4_3 := (congrFun eμ3 (b + 4)).trans ((va_up_ne _ _ (by omega)).trans k4)
        have hb_5_3 : μ3 (b + 5) = .inl (xT cx 0, 6, .inl (va_cpy g fl 0 0 (Ln L))) := by rw [eμ3, va_up_self]
        have hb_6_3 := (congrFun eμ3 (b + 6)).trans ((va_up_ne _ _ (by omega)).trans k6)
        have hin : i = Ln L := by omega
        exact rt_v F hr hlk hW ⟨⟨fk, fs, fg, fd, (va_cpy g fl 0 0 (Ln L)), g, hb_3, hb_1_3, hb_2_3, hb_3_3, hb_4_3, hb_5_3, hb_6_3, hv, fun q hq => by have hq : lst L q = true := hq; rw [cpy_in (lst_n hq), hg q (lst_n hq), hin, lpart_n hq]; show nI (lnew L q) = nI (if lst L q = true then lnew L q else 0); rw [if_pos hq]⟩, (fun z hz => by rw [eμ3, va_up_ne _ _ (by omega)]; rw [hm, va_up_ne _ _ (by omega)])⟩ dX0_passLoads_96
      · skip
        exact absurd c_2 (by omega)
    | succ d ih =>
      intro i g μ1 H locs ls hid hm hg hW hl
      have k6 := (congrFun hm (b + 6)).trans (va_up_self _ _ _)
      have k0 := (congrFun hm (b)).trans ((va_up_ne _ _ (by omega)).trans h0)
      have k1 := (congrFun hm (b + 1)).trans ((va_up_ne _ _ (by omega)).trans h1)
      have k2 := (congrFun hm (b + 2)).trans ((va_up_ne _ _ (by omega)).trans h2)
      have k3 := (congrFun hm (b + 3)).trans ((va_up_ne _ _ (by omega)).trans h3)
      have k4 := (congrFun hm (b + 4)).trans ((va_up_ne _ _ (by omega)).trans h4)
      have k5 := (congrFun hm (b + 5)).trans ((va_up_ne _ _ (by omega)).trans h5)
      have hLm : laneR cx μ1 b L := ⟨fk, fs, fg, fd, fl, g, k0, k1, k2, k3, k4, k5, k6, hv, hv2⟩
      refine lv_iload_n hx hb dX0_passLoads_19 rfl (lv_at hl 1 rfl) ?_
      refine lv_aload_n hx hb dX0_passLoads_20 rfl (lv_at hl 0 rfl) ?_
      refine nv_get F hW (by omega) k0 rfl iX0 6 (by decide) tw_87 rfl dX0_passLoads_21 ?_
      refine nv_cge (tgt := 79) F (by omega) (by omega) dX0_passLoads_24 (by decide) (fun c_4 => ?_) (fun c_4 => ?_)
      · skip
        exact absurd c_4 (by omega)
      · skip
        refine lv_aload_n hx hb dX0_passLoads_27 rfl (lv_at hl 0 rfl) ?_
        refine lv_iload_n hx hb dX0_passLoads_28 rfl (lv_at hl 1 rfl) ?_
        refine cl_ip (cl_run (rest := []) F hW e_X0_93 (c_supportOf hI l hb7 hLm hk i (by omega)) ⟨Nat.le_of_ble_eq_true rfl, Nat.le_of_ble_eq_true rfl⟩ (by omega) k0 rfl rfl rfl hl (Nat.le_of_ble_eq_true rfl) dX0_passLoads_29 ⟨Nat.zero_le _, Nat.zero_le _⟩) hW (fun H locs hW => ?_)
        refine lv_topi (fun x2 ex2 => ?_)
        refine lv_istore_n (lv' := [(2, .int x2), (0, .ref (xa cx b)), (1, .int (nI i))]) hx hb dX0_passLoads_32 rfl hl (by decide) rfl (fun ls hl => ?_)
        refine lv_aload_n hx hb dX0_passLoads_33 rfl (lv_at hl 1 rfl) ?_
        refine lv_iload_n hx hb dX0_passLoads_34 rfl (lv_at hl 2 rfl) ?_
        refine cl_ip (cl_run (rest := []) F hW e_X0_67 (c_standsN hI l hb7 hLm hk i (by omega)) ⟨Nat.le_of_ble_eq_true rfl, Nat.le_of_ble_eq_true rfl⟩ (by omega) k0 rfl rfl rfl hl (Nat.le_of_ble_eq_true rfl) dX0_passLoads_35 ⟨Nat.zero_le _, Nat.zero_le _⟩) hW (fun H locs hW => ?_)
        refine nv_beq (tgt := 73) F dX0_passLoads_38 (by decide) (fun c_5 => ?_) (fun c_5 => ?_)
        · skip
          refine lv_iinc (v := ((nI (i + 1)))) (lv' := [(1, .int (nI (i + 1))), (2, .int x2), (0, .ref (xa cx b))]) hx hb dX0_passLoads_73 hl (k := 2) rfl (nI_add _ _) (by decide) rfl (fun ls hl => ?_)
          refine lv_goto (tgt := 19) hx hb dX0_passLoads_76 (by decide) ?_
          exact ih (i + 1) g μ1 _ _ _ (by omega) hm (fun q hq => by rw [lpart_stay (by first | exact Or.inl (by assumption) | exact Or.inr (by rw [← sup_st (show i < 2147483647 by omega), ← ex2]; assumption)) q]; exact hg q hq) hW (lv_sub hl [2, 0] rfl)
        · skip
          refine lv_aload_n hx hb dX0_passLoads_41 rfl (lv_at hl 1 rfl) ?_
          refine lv_iload_n hx hb dX0_passLoads_42 rfl (lv_at hl 0 rfl) ?_
          refine cl_ip (cl_run (rest := []) F hW e_X0_67 (c_stands hI l hb7 hLm hk x2) ⟨Nat.le_of_ble_eq_true rfl, Nat.le_of_ble_eq_true rfl⟩ (by omega) k0 rfl rfl rfl hl (Nat.le_of_ble_eq_true rfl) dX0_passLoads_43 ⟨Nat.zero_le _, Nat.zero_le _⟩) hW (fun H locs hW => ?_)
          refine nv_beq (tgt := 73) F dX0_passLoads_46 (by decide) (fun c_6 => ?_) (fun c_6 => ?_)
          · skip
            refine lv_iinc (v := ((nI (i + 1)))) (lv' := [(1, .int (nI (i + 1))), (2, .int x2), (0, .ref (xa cx b))]) hx hb dX0_passLoads_73 hl (k := 2) rfl (nI_add _ _) (by decide) rfl (fun ls hl => ?_)
            refine lv_goto (tgt := 19) hx hb dX0_passLoads_76 (by decide) ?_
            exact ih (i + 1) g μ1 _ _ _ (by omega) hm (fun q hq => by rw [lpart_stay (by first | exact Or.inl (by assumption) | exact Or.inr (by rw [← sup_st (show i < 2147483647 by omega), ← ex2]; assumption)) q]; exact hg q hq) hW (lv_sub hl [2, 0] rfl)
          · skip
            obtain ⟨t0, ht0, hst0, rfl⟩ := lstI_of c_6 (by omega)
            refine lv_aload_n hx hb dX0_passLoads_49 rfl (lv_at hl 1 rfl) ?_
            refine nv_get F hW (by omega) k0 rfl iX0 5 (by decide) tw_86 rfl dX0_passLoads_50 ?_
            refine lv_iload_n hx hb dX0_passLoads_53 rfl (lv_at hl 0 rfl) ?_
            refine lv_dup2_11 hx hb dX0_passLoads_54 rfl rfl ?_
            refine nv_ialdN (x := ((nI (lpart L i t0)))) F hW (by omega) k6 (by omega) (by decide) (hg t0 ht0) dX0_passLoads_55 ?_
            refine lv_aload_n hx hb dX0_passLoads_56 rfl (lv_at hl 1 rfl) ?_
            refine nv_get F hW (by omega) k0 rfl iX0 0 (by decide) tw_81 rfl dX0_passLoads_57 ?_
            refine lv_iload_n hx hb dX0_passLoads_60 rfl (lv_at hl 2 rfl) ?_
            refine nv_ialdN (x := ((nI (Lk L i)))) F hW (by omega) k1 (by omega) (by decide) (hv i (by omega)).1 dX0_passLoads_61 ?_
            refine lv_aload_n hx hb dX0_passLoads_62 rfl (lv_at hl 1 rfl) ?_
            refine nv_get F hW (by omega) k0 rfl iX0 4 (by decide) tw_85 rfl dX0_passLoads_63 ?_
            refine lv_iload_n hx hb dX0_passLoads_66 rfl (lv_at hl 2 rfl) ?_
            refine nv_ialdN (x := ((nI (Ll L i)))) F hW (by omega) k5 (by omega) (by decide) (hv2 i ‹lst L i = true›) dX0_passLoads_67 ?_
            refine cl_ip (cl_runS (rest := [.int (nI (lpart L i t0)), .int (nI t0), .ref (xa cx (b + 6))]) F hW e_X0_70 (c_given hI l (Lk L i) ((nI (Ll L i))) (hk4 _ (by omega)).1) ⟨Nat.le_of_ble_eq_true rfl, Nat.le_of_ble_eq_true rfl⟩ rfl rfl hl (Nat.le_of_ble_eq_true rfl) dX0_passLoads_68 ⟨Nat.zero_le _, Nat.zero_le _⟩) hW (fun H locs hW => ?_)
            refine nv_top (y := ((nI (gv (Lk L i) (Ll L i))))) (gvI_nI (by have := lok_l hk i; omega)) ?_
            refine nv_add F dX0_passLoads_71 ?_
            refine nv_iastN F hW (by omega) k6 (by omega) (by decide) dX0_passLoads_72 (fun H locs hW => ?_)
            obtain ⟨μ7, eμ7⟩ : ∃ z : ME, z = va_up μ1 (b + 6) (.inl (xT cx 0, 6, .inl (upd g t0 ((nI ((lpart L i t0) + (gv (Lk L i) (Ll L i)))))))) := ⟨_, rfl⟩
            have hW : St cx s μ7 H locs := by rw [eμ7]; exact hW
            have hb_7 := (congrFun eμ7 b).trans ((va_up_ne _ _ (by omega)).trans k0)
            have hb_1_7 := (congrFun eμ7 (b + 1)).trans ((va_up_ne _ _ (by omega)).trans k1)
            have hb_2_7 := (congrFun eμ7 (b + 2)).trans ((va_up_ne _ _ (by omega)).trans k2)
            have hb_3_7 := (congrFun eμ7 (b + 3)).trans ((va_up_ne _ _ (by omega)).trans k3)
            have hb_4_7 := (congrFun eμ7 (b + 4)).trans ((va_up_ne _ _ (by omega)).trans k4)
            have hb_5_7 := (congrFun eμ7 (b + 5)).trans ((va_up_ne _ _ (by omega)).trans k5)
            have hb_6_7 : μ7 (b + 6) = .inl (xT cx 0, 6, .inl (upd g t0 ((nI ((lpart L i t0) + (gv (Lk L i) (Ll L i))))))) := by rw [eμ7, va_up_self]
            refine lv_iinc (v := ((nI (i + 1)))) (lv' := [(1, .int (nI (i + 1))), (2, .int (nI t0)), (0, .ref (xa cx b))]) hx hb dX0_passLoads_73 hl (k := 2) rfl (nI_add _ _) (by decide) rfl (fun ls hl => ?_)
            refine lv_goto (tgt := 19) hx hb dX0_passLoads_76 (by decide) ?_
            exact ih (i + 1) _ μ7 _ _ _ (by omega) (by rw [eμ7, hm, bx_uu]) (fun q hq => by
                show upd g t0 (nI (lpart L i t0 + gv (Lk L i) (Ll L i))) q = _
                rw [lpart_go ‹lst L i = true› hst0 ex2.symm (by omega) (by omega) (hk4 i (by omega)).2.2.2 q]
                unfold upd
                by_cases e : q = t0
                · rw [if_pos e, if_pos e]
                · rw [if_neg e, if_neg e]; exact hg q hq) hW (lv_sub hl [2, 0] rfl)
  exact LOOP (Ln L) 0 _ μ1 _ _ _ (by omega) eμ1 (fun t ht => by rw [cpy_in ht, lpart_0]; exact (hv t ht).2.1) hW (lv_sub hl [1, 0] rfl)

theorem lgr_le (L : LN) (i : Nat) : lgr L i ≤ Ll L i := by
  unfold lgr
  split
  · omega
  · omega

set_option maxHeartbeats 4000000 in
set_option maxRecDepth 100000 in
theorem c_fallingBits {cx : CX} (hI : xI cx) (l : Launch) {μ : ME} {b : Nat} {L : LN} {B : Nat} (hb7 : b + 7 ≤ xN cx) (hL : laneR cx μ b L) (hk : lok L B) (hB : B < 1000000000) : MT cx l yX0_fallingBits cX0_fallingBits 6 (some .int) 1 21 [.ref (xa cx b)] μ (Pi cx μ (nI (bitsOf (lfall L) (Ln L)))) := by
  refine mt_of hI (by decide) (Nat.le_of_ble_eq_true rfl) ?_
  intro p e s m below meth c ls F hr hlk hW hl
  have hx := F.1.1
  have hb := F.1.2.1
  have hts := F.1.2.2.2.2
  obtain ⟨fk, fs, fg, fd, fl, fc, h0, h1, h2, h3, h4, h5, h6, hv, hv2⟩ := id hL
  have hn6 := hk.1
  have hU := lok_U hk
  have hk4 := hk.2.2.2.1
  have hl : lv_has ls 6 [(0, .ref (xa cx b))] := hl
  refine lv_iconst (v := nI 0) hx hb dX0_fallingBits_0 (by decide) ?_
  refine lv_istore_n (lv' := [(1, .int (nI 0)), (0, .ref (xa cx b))]) hx hb dX0_fallingBits_1 rfl hl (by decide) rfl (fun ls hl => ?_)
  refine lv_iconst (v := nI 0) hx hb dX0_fallingBits_2 (by decide) ?_
  refine lv_istore_n (lv' := [(2, .int (nI 0)), (1, .int (nI 0)), (0, .ref (xa cx b))]) hx hb dX0_fallingBits_3 rfl hl (by decide) rfl (fun ls hl => ?_)
  have LOOP : ∀ (d i : Nat)  (H : Heap) (locs : List Loc) (ls : Array Slot), i + d = Ln L → St cx s μ H locs → lv_has ls 6 [(0, .ref (xa cx b)), (1, .int (nI (bitsOf (lfall L) i))), (2, .int (nI i))] → W p l e { frames := 1, cells := 0, slots := 0, locals := 21 } s m [.ref (xa cx b)].toArray below meth c H locs 0 0 (MQ below (Pi cx μ (nI (bitsOf (lfall L) (Ln L)))) [.ref (xa cx b)].toArray s 0 0 (xA cx)) (F0 m 4 ls []) := by
    intro d
    induction d with
    | zero =>
      intro i   H locs ls hid  hW hl
      refine lv_iload_n hx hb dX0_fallingBits_4 rfl (lv_at hl 2 rfl) ?_
      refine lv_aload_n hx hb dX0_fallingBits_5 rfl (lv_at hl 0 rfl) ?_
      refine nv_get F hW (by omega) h0 rfl iX0 6 (by decide) tw_87 rfl dX0_fallingBits_6 ?_
      refine nv_cge (tgt := 111) F (by omega) (by omega) dX0_fallingBits_9 (by decide) (fun c_1 => ?_) (fun c_1 => ?_)
      · skip
        refine lv_iload_n hx hb dX0_fallingBits_111 rfl (lv_at hl 1 rfl) ?_
        exact rt_ip F hr hlk hW (by rw [show i = Ln L by omega]) rfl dX0_fallingBits_112
      · skip
        exact absurd c_1 (by omega)
    | succ d ih =>
      intro i   H locs ls hid  hW hl
      refine lv_iload_n hx hb dX0_fallingBits_4 rfl (lv_at hl 2 rfl) ?_
      refine lv_aload_n hx hb dX0_fallingBits_5 rfl (lv_at hl 0 rfl) ?_
      refine nv_get F hW (by omega) h0 rfl iX0 6 (by decide) tw_87 rfl dX0_fallingBits_6 ?_
      refine nv_cge (tgt := 111) F (by omega) (by omega) dX0_fallingBits_9 (by decide) (fun c_2 => ?_) (fun c_2 => ?_)
      · skip
        exact absurd c_2 (by omega)
      · skip
        refine lv_aload_n hx hb dX0_fallingBits_12 rfl (lv_at hl 0 rfl) ?_
        refine lv_iload_n hx hb dX0_fallingBits_13 rfl (lv_at hl 2 rfl) ?_
        refine cl_ip (cl_run (rest := []) F hW e_X0_93 (c_supportOf hI l hb7 hL hk i (by omega)) ⟨Nat.le_of_ble_eq_true rfl, Nat.le_of_ble_eq_true rfl⟩ (by omega) h0 rfl rfl rfl hl (Nat.le_of_ble_eq_true rfl) dX0_fallingBits_14 ⟨Nat.zero_le _, Nat.zero_le _⟩) hW (fun H locs hW => ?_)
        refine lv_topi (fun x3 ex3 => ?_)
        refine lv_istore_n (lv' := [(3, .int x3), (0, .ref (xa cx b)), (1, .int (nI (bitsOf (lfall L) i))), (2, .int (nI i))]) hx hb dX0_fallingBits_17 rfl hl (by decide) rfl (fun ls hl => ?_)
        refine lv_aload_n hx hb dX0_fallingBits_18 rfl (lv_at hl 1 rfl) ?_
        refine nv_get F hW (by omega) h0 rfl iX0 0 (by decide) tw_81 rfl dX0_fallingBits_19 ?_
        refine lv_iload_n hx hb dX0_fallingBits_22 rfl (lv_at hl 3 rfl) ?_
        refine nv_ialdN (x := ((nI (Lk L i)))) F hW (by omega) h1 (by omega) (by decide) (hv i (by omega)).1 dX0_fallingBits_23 ?_
        refine lv_iconst (v := nI 2) hx hb dX0_fallingBits_24 (by decide) ?_
        refine nv_ceq (tgt := 42) F (by have := (hk4 i (by omega)).1; omega) (by omega) dX0_fallingBits_25 (by decide) (fun c_3 => ?_) (fun c_3 => ?_)
        · skip
          have hh : loose L i = false := by first | exact loose_k (by assumption) | exact loose_m ex3 (hk4 i (by omega)).2.2.2 (by omega) (by assumption) | exact loose_s ex3 (by omega) (by assumption)
          refine lv_iconst (v := nI 1) hx hb dX0_fallingBits_42 (by decide) ?_
          refine lv_goto (tgt := 47) hx hb dX0_fallingBits_43 (by decide) ?_
          refine lv_istore (lv' := [(4, .int (nI 1)), (3, .int x3), (0, .ref (xa cx b)), (1, .int (nI (bitsOf (lfall L) i))), (2, .int (nI i))]) hx hb dX0_fallingBits_47 hl (by decide) rfl (fun ls hl => ?_)
          refine lv_aload_n hx hb dX0_fallingBits_49 rfl (lv_at hl 2 rfl) ?_
          refine nv_get F hW (by omega) h0 rfl iX0 4 (by decide) tw_85 rfl dX0_fallingBits_50 ?_
          refine lv_iload_n hx hb dX0_fallingBits_53 rfl (lv_at hl 4 rfl) ?_
          refine nv_ialdN (x := ((fl i))) F hW (by omega) h5 (by omega) (by decide) rfl dX0_fallingBits_54 ?_
          refine lv_aload_n hx hb dX0_fallingBits_55 rfl (lv_at hl 2 rfl) ?_
          refine nv_get F hW (by omega) h0 rfl iX0 0 (by decide) tw_81 rfl dX0_fallingBits_56 ?_
          refine lv_iload_n hx hb dX0_fallingBits_59 rfl (lv_at hl 4 rfl) ?_
          refine nv_ialdN (x := ((nI (Lk L i)))) F hW (by omega) h1 (by omega) (by decide) (hv i (by omega)).1 dX0_fallingBits_60 ?_
          refine lv_aload_n hx hb dX0_fallingBits_61 rfl (lv_at hl 2 rfl) ?_
          refine nv_get F hW (by omega) h0 rfl iX0 4 (by decide) tw_85 rfl dX0_fallingBits_62 ?_
          refine lv_iload_n hx hb dX0_fallingBits_65 rfl (lv_at hl 4 rfl) ?_
          refine nv_ialdN (x := ((fl i))) F hW (by omega) h5 (by omega) (by decide) rfl dX0_fallingBits_66 ?_
          refine cl_ip (cl_runS (rest := [.int (fl i)]) F hW e_X0_70 (c_given hI l (Lk L i) ((fl i)) (hk4 _ (by omega)).1) ⟨Nat.le_of_ble_eq_true rfl, Nat.le_of_ble_eq_true rfl⟩ rfl rfl hl (Nat.le_of_ble_eq_true rfl) dX0_fallingBits_67 ⟨Nat.zero_le _, Nat.zero_le _⟩) hW (fun H locs hW => ?_)
          refine lv_isub hx hb dX0_fallingBits_70 ?_
          refine lv_topi (fun x5 ex5 => ?_)
          refine lv_istore (lv' := [(5, .int x5), (4, .int (nI 1)), (3, .int x3), (0, .ref (xa cx b)), (1, .int (nI (bitsOf (lfall L) i))), (2, .int (nI i))]) hx hb dX0_fallingBits_71 hl (by decide) rfl (fun ls hl => ?_)
          refine lv_aload_n hx hb dX0_fallingBits_73 rfl (lv_at hl 3 rfl) ?_
          refine lv_iload_n hx hb dX0_fallingBits_74 rfl (lv_at hl 5 rfl) ?_
          refine cl_ip (cl_run (rest := []) F hW e_X0_67 (c_standsN hI l hb7 hL hk i (by omega)) ⟨Nat.le_of_ble_eq_true rfl, Nat.le_of_ble_eq_true rfl⟩ (by omega) h0 rfl rfl rfl hl (Nat.le_of_ble_eq_true rfl) dX0_fallingBits_75 ⟨Nat.zero_le _, Nat.zero_le _⟩) hW (fun H locs hW => ?_)
          refine nv_beq (tgt := 105) F dX0_fallingBits_78 (by decide) (fun c_4 => ?_) (fun c_4 => ?_)
          · skip
            refine lv_iinc (v := ((nI (i + 1)))) (lv' := [(2, .int (nI (i + 1))), (5, .int x5), (4, .int (nI 1)), (3, .int x3), (0, .ref (xa cx b)), (1, .int (nI (bitsOf (lfall L) i)))]) hx hb dX0_fallingBits_105 hl (k := 5) rfl (nI_add _ _) (by decide) rfl (fun ls hl => ?_)
            refine lv_goto (tgt := 4) hx hb dX0_fallingBits_108 (by decide) ?_
            have hf : lfall L i = false := by rw [lfall_def]; first | (rw [‹lst L i = false›]; rfl) | (rw [hh, decide_eq_false (by omega)]; simp)
            have e1 : bitsOf (lfall L) (i + 1) = bitsOf (lfall L) i := by show bitsOf (lfall L) i ||| (if lfall L i = true then 2 ^ i else 0) = _; rw [if_neg (by rw [hf]; decide), Nat.or_zero]
            exact ih (i + 1) _ _ _ (by omega) hW (by rw [e1]; exact lv_sub hl [4, 5, 0] rfl)
          · skip
            refine lv_iload hx hb dX0_fallingBits_81 (lv_at hl 1 rfl) ?_
            refine nv_zeq (tgt := 99) F (by decide) dX0_fallingBits_83 (by decide) (fun c_5 => ?_) (fun c_5 => ?_)
            · skip
              exact absurd c_5 (by decide)
            · skip
              have e5 : x5 = nI (lgr L i) := by rw [ex5, hv2 i ‹lst L i = true›, gvI_nI (by have := lok_l hk i; omega), pk_sub (gv_le _ _)]; unfold lgr; rw [if_pos ‹lst L i = true›]
              refine lv_iload hx hb dX0_fallingBits_86 (lv_at hl 0 rfl) ?_
              refine nv_top (y := ((nI (lgr L i)))) e5 ?_
              refine lv_iconst (v := nI 3) hx hb dX0_fallingBits_88 (by decide) ?_
              refine lv_aload_n hx hb dX0_fallingBits_89 rfl (lv_at hl 3 rfl) ?_
              refine nv_get F hW (by omega) h0 rfl iX0 2 (by decide) tw_83 rfl dX0_fallingBits_90 ?_
              refine lv_iload_n hx hb dX0_fallingBits_93 rfl (lv_at hl 5 rfl) ?_
              refine nv_ialdN (x := ((nI (Lg L i)))) F hW (by omega) h3 (by omega) (by decide) (hv i (by omega)).2.2.1 dX0_fallingBits_94 ?_
              refine nv_mul F dX0_fallingBits_95 ?_
              refine nv_cle (tgt := 105) F (by have := lok_l hk i; have := lgr_le L i; omega) (by have := (hk4 i (by omega)).2.2.1; omega) dX0_fallingBits_96 (by decide) (fun c_6 => ?_) (fun c_6 => ?_)
              · skip
                refine lv_iinc (v := ((nI (i + 1)))) (lv' := [(2, .int (nI (i + 1))), (5, .int x5), (4, .int (nI 1)), (3, .int x3), (0, .ref (xa cx b)), (1, .int (nI (bitsOf (lfall L) i)))]) hx hb dX0_fallingBits_105 hl (k := 5) rfl (nI_add _ _) (by decide) rfl (fun ls hl => ?_)
                refine lv_goto (tgt := 4) hx hb dX0_fallingBits_108 (by decide) ?_
                have hf : lfall L i = false := by rw [lfall_def]; first | (rw [‹lst L i = false›]; rfl) | (rw [hh, decide_eq_false (by omega)]; simp)
                have e1 : bitsOf (lfall L) (i + 1) = bitsOf (lfall L) i := by show bitsOf (lfall L) i ||| (if lfall L i = true then 2 ^ i else 0) = _; rw [if_neg (by rw [hf]; decide), Nat.or_zero]
                exact ih (i + 1) _ _ _ (by omega) hW (by rw [e1]; exact lv_sub hl [4, 5, 0] rfl)
              · skip
                refine lv_iload_n hx hb dX0_fallingBits_99 rfl (lv_at hl 4 rfl) ?_
                refine lv_iconst (v := nI 1) hx hb dX0_fallingBits_100 (by decide) ?_
                refine lv_iload_n hx hb dX0_fallingBits_101 rfl (lv_at hl 5 rfl) ?_
                refine nv_shl F (by omega) (pow2_lt (by omega)) dX0_fallingBits_102 ?_
                refine nv_top (y := ((nI (2 ^ i)))) (by rw [Nat.one_mul]) ?_
                refine nv_or F dX0_fallingBits_103 ?_
                refine lv_istore_n (lv' := [(1, .int (nI ((bitsOf (lfall L) i) ||| (2 ^ i)))), (5, .int x5), (4, .int (nI 1)), (3, .int x3), (0, .ref (xa cx b)), (2, .int (nI i))]) hx hb dX0_fallingBits_104 rfl hl (by decide) rfl (fun ls hl => ?_)
                refine lv_iinc (v := ((nI (i + 1)))) (lv' := [(2, .int (nI (i + 1))), (1, .int (nI ((bitsOf (lfall L) i) ||| (2 ^ i)))), (5, .int x5), (4, .int (nI 1)), (3, .int x3), (0, .ref (xa cx b))]) hx hb dX0_fallingBits_105 hl (k := 5) rfl (nI_add _ _) (by decide) rfl (fun ls hl => ?_)
                refine lv_goto (tgt := 4) hx hb dX0_fallingBits_108 (by decide) ?_
                have hf : lfall L i = true := by rw [lfall_def, ‹lst L i = true›]; first | (rw [hh]; rfl) | (rw [decide_eq_true (by omega)]; simp)
                have e1 : bitsOf (lfall L) (i + 1) = bitsOf (lfall L) i ||| 2 ^ i := by show bitsOf (lfall L) i ||| (if lfall L i = true then 2 ^ i else 0) = _; rw [if_pos hf]
                exact ih (i + 1) _ _ _ (by omega) hW (by rw [e1]; exact lv_sub hl [5, 1, 0] rfl)
        · skip
          refine lv_iload_n hx hb dX0_fallingBits_28 rfl (lv_at hl 0 rfl) ?_
          refine lv_bipush (v := (-2)) hx hb dX0_fallingBits_29 (by decide) ?_
          refine lv_icmp_eq (tgt := 42) hx hb dX0_fallingBits_31 (by decide) (fun c_7 => ?_) (fun c_7 => ?_)
          · skip
            have hh : loose L i = false := by first | exact loose_k (by assumption) | exact loose_m ex3 (hk4 i (by omega)).2.2.2 (by omega) (by assumption) | exact loose_s ex3 (by omega) (by assumption)
            refine lv_iconst (v := nI 1) hx hb dX0_fallingBits_42 (by decide) ?_
            refine lv_goto (tgt := 47) hx hb dX0_fallingBits_43 (by decide) ?_
            refine lv_istore (lv' := [(4, .int (nI 1)), (3, .int x3), (0, .ref (xa cx b)), (1, .int (nI (bitsOf (lfall L) i))), (2, .int (nI i))]) hx hb dX0_fallingBits_47 hl (by decide) rfl (fun ls hl => ?_)
            refine lv_aload_n hx hb dX0_fallingBits_49 rfl (lv_at hl 2 rfl) ?_
            refine nv_get F hW (by omega) h0 rfl iX0 4 (by decide) tw_85 rfl dX0_fallingBits_50 ?_
            refine lv_iload_n hx hb dX0_fallingBits_53 rfl (lv_at hl 4 rfl) ?_
            refine nv_ialdN (x := ((fl i))) F hW (by omega) h5 (by omega) (by decide) rfl dX0_fallingBits_54 ?_
            refine lv_aload_n hx hb dX0_fallingBits_55 rfl (lv_at hl 2 rfl) ?_
            refine nv_get F hW (by omega) h0 rfl iX0 0 (by decide) tw_81 rfl dX0_fallingBits_56 ?_
            refine lv_iload_n hx hb dX0_fallingBits_59 rfl (lv_at hl 4 rfl) ?_
            refine nv_ialdN (x := ((nI (Lk L i)))) F hW (by omega) h1 (by omega) (by decide) (hv i (by omega)).1 dX0_fallingBits_60 ?_
            refine lv_aload_n hx hb dX0_fallingBits_61 rfl (lv_at hl 2 rfl) ?_
            refine nv_get F hW (by omega) h0 rfl iX0 4 (by decide) tw_85 rfl dX0_fallingBits_62 ?_
            refine lv_iload_n hx hb dX0_fallingBits_65 rfl (lv_at hl 4 rfl) ?_
            refine nv_ialdN (x := ((fl i))) F hW (by omega) h5 (by omega) (by decide) rfl dX0_fallingBits_66 ?_
            refine cl_ip (cl_runS (rest := [.int (fl i)]) F hW e_X0_70 (c_given hI l (Lk L i) ((fl i)) (hk4 _ (by omega)).1) ⟨Nat.le_of_ble_eq_true rfl, Nat.le_of_ble_eq_true rfl⟩ rfl rfl hl (Nat.le_of_ble_eq_true rfl) dX0_fallingBits_67 ⟨Nat.zero_le _, Nat.zero_le _⟩) hW (fun H locs hW => ?_)
            refine lv_isub hx hb dX0_fallingBits_70 ?_
            refine lv_topi (fun x5 ex5 => ?_)
            refine lv_istore (lv' := [(5, .int x5), (4, .int (nI 1)), (3, .int x3), (0, .ref (xa cx b)), (1, .int (nI (bitsOf (lfall L) i))), (2, .int (nI i))]) hx hb dX0_fallingBits_71 hl (by decide) rfl (fun ls hl => ?_)
            refine lv_aload_n hx hb dX0_fallingBits_73 rfl (lv_at hl 3 rfl) ?_
            refine lv_iload_n hx hb dX0_fallingBits_74 rfl (lv_at hl 5 rfl) ?_
            refine cl_ip (cl_run (rest := []) F hW e_X0_67 (c_standsN hI l hb7 hL hk i (by omega)) ⟨Nat.le_of_ble_eq_true rfl, Nat.le_of_ble_eq_true rfl⟩ (by omega) h0 rfl rfl rfl hl (Nat.le_of_ble_eq_true rfl) dX0_fallingBits_75 ⟨Nat.zero_le _, Nat.zero_le _⟩) hW (fun H locs hW => ?_)
            refine nv_beq (tgt := 105) F dX0_fallingBits_78 (by decide) (fun c_8 => ?_) (fun c_8 => ?_)
            · skip
              refine lv_iinc (v := ((nI (i + 1)))) (lv' := [(2, .int (nI (i + 1))), (5, .int x5), (4, .int (nI 1)), (3, .int x3), (0, .ref (xa cx b)), (1, .int (nI (bitsOf (lfall L) i)))]) hx hb dX0_fallingBits_105 hl (k := 5) rfl (nI_add _ _) (by decide) rfl (fun ls hl => ?_)
              refine lv_goto (tgt := 4) hx hb dX0_fallingBits_108 (by decide) ?_
              have hf : lfall L i = false := by rw [lfall_def]; first | (rw [‹lst L i = false›]; rfl) | (rw [hh, decide_eq_false (by omega)]; simp)
              have e1 : bitsOf (lfall L) (i + 1) = bitsOf (lfall L) i := by show bitsOf (lfall L) i ||| (if lfall L i = true then 2 ^ i else 0) = _; rw [if_neg (by rw [hf]; decide), Nat.or_zero]
              exact ih (i + 1) _ _ _ (by omega) hW (by rw [e1]; exact lv_sub hl [4, 5, 0] rfl)
            · skip
              refine lv_iload hx hb dX0_fallingBits_81 (lv_at hl 1 rfl) ?_
              refine nv_zeq (tgt := 99) F (by decide) dX0_fallingBits_83 (by decide) (fun c_9 => ?_) (fun c_9 => ?_)
              · skip
                exact absurd c_9 (by decide)
              · skip
                have e5 : x5 = nI (lgr L i) := by rw [ex5, hv2 i ‹lst L i = true›, gvI_nI (by have := lok_l hk i; omega), pk_sub (gv_le _ _)]; unfold lgr; rw [if_pos ‹lst L i = true›]
                refine lv_iload hx hb dX0_fallingBits_86 (lv_at hl 0 rfl) ?_
                refine nv_top (y := ((nI (lgr L i)))) e5 ?_
                refine lv_iconst (v := nI 3) hx hb dX0_fallingBits_88 (by decide) ?_
                refine lv_aload_n hx hb dX0_fallingBits_89 rfl (lv_at hl 3 rfl) ?_
                refine nv_get F hW (by omega) h0 rfl iX0 2 (by decide) tw_83 rfl dX0_fallingBits_90 ?_
                refine lv_iload_n hx hb dX0_fallingBits_93 rfl (lv_at hl 5 rfl) ?_
                refine nv_ialdN (x := ((nI (Lg L i)))) F hW (by omega) h3 (by omega) (by decide) (hv i (by omega)).2.2.1 dX0_fallingBits_94 ?_
                refine nv_mul F dX0_fallingBits_95 ?_
                refine nv_cle (tgt := 105) F (by have := lok_l hk i; have := lgr_le L i; omega) (by have := (hk4 i (by omega)).2.2.1; omega) dX0_fallingBits_96 (by decide) (fun c_10 => ?_) (fun c_10 => ?_)
                · skip
                  refine lv_iinc (v := ((nI (i + 1)))) (lv' := [(2, .int (nI (i + 1))), (5, .int x5), (4, .int (nI 1)), (3, .int x3), (0, .ref (xa cx b)), (1, .int (nI (bitsOf (lfall L) i)))]) hx hb dX0_fallingBits_105 hl (k := 5) rfl (nI_add _ _) (by decide) rfl (fun ls hl => ?_)
                  refine lv_goto (tgt := 4) hx hb dX0_fallingBits_108 (by decide) ?_
                  have hf : lfall L i = false := by rw [lfall_def]; first | (rw [‹lst L i = false›]; rfl) | (rw [hh, decide_eq_false (by omega)]; simp)
                  have e1 : bitsOf (lfall L) (i + 1) = bitsOf (lfall L) i := by show bitsOf (lfall L) i ||| (if lfall L i = true then 2 ^ i else 0) = _; rw [if_neg (by rw [hf]; decide), Nat.or_zero]
                  exact ih (i + 1) _ _ _ (by omega) hW (by rw [e1]; exact lv_sub hl [4, 5, 0] rfl)
                · skip
                  refine lv_iload_n hx hb dX0_fallingBits_99 rfl (lv_at hl 4 rfl) ?_
                  refine lv_iconst (v := nI 1) hx hb dX0_fallingBits_100 (by decide) ?_
                  refine lv_iload_n hx hb dX0_fallingBits_101 rfl (lv_at hl 5 rfl) ?_
                  refine nv_shl F (by omega) (pow2_lt (by omega)) dX0_fallingBits_102 ?_
                  refine nv_top (y := ((nI (2 ^ i)))) (by rw [Nat.one_mul]) ?_
                  refine nv_or F dX0_fallingBits_103 ?_
                  refine lv_istore_n (lv' := [(1, .int (nI ((bitsOf (lfall L) i) ||| (2 ^ i)))), (5, .int x5), (4, .int (nI 1)), (3, .int x3), (0, .ref (xa cx b)), (2, .int (nI i))]) hx hb dX0_fallingBits_104 rfl hl (by decide) rfl (fun ls hl => ?_)
                  refine lv_iinc (v := ((nI (i + 1)))) (lv' := [(2, .int (nI (i + 1))), (1, .int (nI ((bitsOf (lfall L) i) ||| (2 ^ i)))), (5, .int x5), (4, .int (nI 1)), (3, .int x3), (0, .ref (xa cx b))]) hx hb dX0_fallingBits_105 hl (k := 5) rfl (nI_add _ _) (by decide) rfl (fun ls hl => ?_)
                  refine lv_goto (tgt := 4) hx hb dX0_fallingBits_108 (by decide) ?_
                  have hf : lfall L i = true := by rw [lfall_def, ‹lst L i = true›]; first | (rw [hh]; rfl) | (rw [decide_eq_true (by omega)]; simp)
                  have e1 : bitsOf (lfall L) (i + 1) = bitsOf (lfall L) i ||| 2 ^ i := by show bitsOf (lfall L) i ||| (if lfall L i = true then 2 ^ i else 0) = _; rw [if_pos hf]
                  exact ih (i + 1) _ _ _ (by omega) hW (by rw [e1]; exact lv_sub hl [5, 1, 0] rfl)
          · skip
            refine lv_aload_n hx hb dX0_fallingBits_34 rfl (lv_at hl 1 rfl) ?_
            refine lv_iload_n hx hb dX0_fallingBits_35 rfl (lv_at hl 0 rfl) ?_
            refine cl_ip (cl_run (rest := []) F hW e_X0_67 (c_stands hI l hb7 hL hk x3) ⟨Nat.le_of_ble_eq_true rfl, Nat.le_of_ble_eq_true rfl⟩ (by omega) h0 rfl rfl rfl hl (Nat.le_of_ble_eq_true rfl) dX0_fallingBits_36 ⟨Nat.zero_le _, Nat.zero_le _⟩) hW (fun H locs hW => ?_)
            refine nv_beq (tgt := 46) F dX0_fallingBits_39 (by decide) (fun c_11 => ?_) (fun c_11 => ?_)
            · skip
              have hh : loose L i = true := loose_t ex3 (hk4 i (by omega)).2.2.2 (by omega) (by assumption) (by assumption) (by assumption)
              refine lv_iconst (v := nI 0) hx hb dX0_fallingBits_46 (by decide) ?_
              refine lv_istore (lv' := [(4, .int (nI 0)), (3, .int x3), (0, .ref (xa cx b)), (1, .int (nI (bitsOf (lfall L) i))), (2, .int (nI i))]) hx hb dX0_fallingBits_47 hl (by decide) rfl (fun ls hl => ?_)
              refine lv_aload_n hx hb dX0_fallingBits_49 rfl (lv_at hl 2 rfl) ?_
              refine nv_get F hW (by omega) h0 rfl iX0 4 (by decide) tw_85 rfl dX0_fallingBits_50 ?_
              refine lv_iload_n hx hb dX0_fallingBits_53 rfl (lv_at hl 4 rfl) ?_
              refine nv_ialdN (x := ((fl i))) F hW (by omega) h5 (by omega) (by decide) rfl dX0_fallingBits_54 ?_
              refine lv_aload_n hx hb dX0_fallingBits_55 rfl (lv_at hl 2 rfl) ?_
              refine nv_get F hW (by omega) h0 rfl iX0 0 (by decide) tw_81 rfl dX0_fallingBits_56 ?_
              refine lv_iload_n hx hb dX0_fallingBits_59 rfl (lv_at hl 4 rfl) ?_
              refine nv_ialdN (x := ((nI (Lk L i)))) F hW (by omega) h1 (by omega) (by decide) (hv i (by omega)).1 dX0_fallingBits_60 ?_
              refine lv_aload_n hx hb dX0_fallingBits_61 rfl (lv_at hl 2 rfl) ?_
              refine nv_get F hW (by omega) h0 rfl iX0 4 (by decide) tw_85 rfl dX0_fallingBits_62 ?_
              refine lv_iload_n hx hb dX0_fallingBits_65 rfl (lv_at hl 4 rfl) ?_
              refine nv_ialdN (x := ((fl i))) F hW (by omega) h5 (by omega) (by decide) rfl dX0_fallingBits_66 ?_
              refine cl_ip (cl_runS (rest := [.int (fl i)]) F hW e_X0_70 (c_given hI l (Lk L i) ((fl i)) (hk4 _ (by omega)).1) ⟨Nat.le_of_ble_eq_true rfl, Nat.le_of_ble_eq_true rfl⟩ rfl rfl hl (Nat.le_of_ble_eq_true rfl) dX0_fallingBits_67 ⟨Nat.zero_le _, Nat.zero_le _⟩) hW (fun H locs hW => ?_)
              refine lv_isub hx hb dX0_fallingBits_70 ?_
              refine lv_topi (fun x5 ex5 => ?_)
              refine lv_istore (lv' := [(5, .int x5), (4, .int (nI 0)), (3, .int x3), (0, .ref (xa cx b)), (1, .int (nI (bitsOf (lfall L) i))), (2, .int (nI i))]) hx hb dX0_fallingBits_71 hl (by decide) rfl (fun ls hl => ?_)
              refine lv_aload_n hx hb dX0_fallingBits_73 rfl (lv_at hl 3 rfl) ?_
              refine lv_iload_n hx hb dX0_fallingBits_74 rfl (lv_at hl 5 rfl) ?_
              refine cl_ip (cl_run (rest := []) F hW e_X0_67 (c_standsN hI l hb7 hL hk i (by omega)) ⟨Nat.le_of_ble_eq_true rfl, Nat.le_of_ble_eq_true rfl⟩ (by omega) h0 rfl rfl rfl hl (Nat.le_of_ble_eq_true rfl) dX0_fallingBits_75 ⟨Nat.zero_le _, Nat.zero_le _⟩) hW (fun H locs hW => ?_)
              refine nv_beq (tgt := 105) F dX0_fallingBits_78 (by decide) (fun c_12 => ?_) (fun c_12 => ?_)
              · skip
                refine lv_iinc (v := ((nI (i + 1)))) (lv' := [(2, .int (nI (i + 1))), (5, .int x5), (4, .int (nI 0)), (3, .int x3), (0, .ref (xa cx b)), (1, .int (nI (bitsOf (lfall L) i)))]) hx hb dX0_fallingBits_105 hl (k := 5) rfl (nI_add _ _) (by decide) rfl (fun ls hl => ?_)
                refine lv_goto (tgt := 4) hx hb dX0_fallingBits_108 (by decide) ?_
                have hf : lfall L i = false := by rw [lfall_def]; first | (rw [‹lst L i = false›]; rfl) | (rw [hh, decide_eq_false (by omega)]; simp)
                have e1 : bitsOf (lfall L) (i + 1) = bitsOf (lfall L) i := by show bitsOf (lfall L) i ||| (if lfall L i = true then 2 ^ i else 0) = _; rw [if_neg (by rw [hf]; decide), Nat.or_zero]
                exact ih (i + 1) _ _ _ (by omega) hW (by rw [e1]; exact lv_sub hl [4, 5, 0] rfl)
              · skip
                refine lv_iload hx hb dX0_fallingBits_81 (lv_at hl 1 rfl) ?_
                refine nv_zeq (tgt := 99) F (by decide) dX0_fallingBits_83 (by decide) (fun c_13 => ?_) (fun c_13 => ?_)
                · skip
                  refine lv_iload_n hx hb dX0_fallingBits_99 rfl (lv_at hl 4 rfl) ?_
                  refine lv_iconst (v := nI 1) hx hb dX0_fallingBits_100 (by decide) ?_
                  refine lv_iload_n hx hb dX0_fallingBits_101 rfl (lv_at hl 5 rfl) ?_
                  refine nv_shl F (by omega) (pow2_lt (by omega)) dX0_fallingBits_102 ?_
                  refine nv_top (y := ((nI (2 ^ i)))) (by rw [Nat.one_mul]) ?_
                  refine nv_or F dX0_fallingBits_103 ?_
                  refine lv_istore_n (lv' := [(1, .int (nI ((bitsOf (lfall L) i) ||| (2 ^ i)))), (5, .int x5), (4, .int (nI 0)), (3, .int x3), (0, .ref (xa cx b)), (2, .int (nI i))]) hx hb dX0_fallingBits_104 rfl hl (by decide) rfl (fun ls hl => ?_)
                  refine lv_iinc (v := ((nI (i + 1)))) (lv' := [(2, .int (nI (i + 1))), (1, .int (nI ((bitsOf (lfall L) i) ||| (2 ^ i)))), (5, .int x5), (4, .int (nI 0)), (3, .int x3), (0, .ref (xa cx b))]) hx hb dX0_fallingBits_105 hl (k := 5) rfl (nI_add _ _) (by decide) rfl (fun ls hl => ?_)
                  refine lv_goto (tgt := 4) hx hb dX0_fallingBits_108 (by decide) ?_
                  have hf : lfall L i = true := by rw [lfall_def, ‹lst L i = true›]; first | (rw [hh]; rfl) | (rw [decide_eq_true (by omega)]; simp)
                  have e1 : bitsOf (lfall L) (i + 1) = bitsOf (lfall L) i ||| 2 ^ i := by show bitsOf (lfall L) i ||| (if lfall L i = true then 2 ^ i else 0) = _; rw [if_pos hf]
                  exact ih (i + 1) _ _ _ (by omega) hW (by rw [e1]; exact lv_sub hl [5, 1, 0] rfl)
                · skip
                  exact absurd c_13 (by decide)
            · skip
              have hh : loose L i = false := by first | exact loose_k (by assumption) | exact loose_m ex3 (hk4 i (by omega)).2.2.2 (by omega) (by assumption) | exact loose_s ex3 (by omega) (by assumption)
              refine lv_iconst (v := nI 1) hx hb dX0_fallingBits_42 (by decide) ?_
              refine lv_goto (tgt := 47) hx hb dX0_fallingBits_43 (by decide) ?_
              refine lv_istore (lv' := [(4, .int (nI 1)), (3, .int x3), (0, .ref (xa cx b)), (1, .int (nI (bitsOf (lfall L) i))), (2, .int (nI i))]) hx hb dX0_fallingBits_47 hl (by decide) rfl (fun ls hl => ?_)
              refine lv_aload_n hx hb dX0_fallingBits_49 rfl (lv_at hl 2 rfl) ?_
              refine nv_get F hW (by omega) h0 rfl iX0 4 (by decide) tw_85 rfl dX0_fallingBits_50 ?_
              refine lv_iload_n hx hb dX0_fallingBits_53 rfl (lv_at hl 4 rfl) ?_
              refine nv_ialdN (x := ((fl i))) F hW (by omega) h5 (by omega) (by decide) rfl dX0_fallingBits_54 ?_
              refine lv_aload_n hx hb dX0_fallingBits_55 rfl (lv_at hl 2 rfl) ?_
              refine nv_get F hW (by omega) h0 rfl iX0 0 (by decide) tw_81 rfl dX0_fallingBits_56 ?_
              refine lv_iload_n hx hb dX0_fallingBits_59 rfl (lv_at hl 4 rfl) ?_
              refine nv_ialdN (x := ((nI (Lk L i)))) F hW (by omega) h1 (by omega) (by decide) (hv i (by omega)).1 dX0_fallingBits_60 ?_
              refine lv_aload_n hx hb dX0_fallingBits_61 rfl (lv_at hl 2 rfl) ?_
              refine nv_get F hW (by omega) h0 rfl iX0 4 (by decide) tw_85 rfl dX0_fallingBits_62 ?_
              refine lv_iload_n hx hb dX0_fallingBits_65 rfl (lv_at hl 4 rfl) ?_
              refine nv_ialdN (x := ((fl i))) F hW (by omega) h5 (by omega) (by decide) rfl dX0_fallingBits_66 ?_
              refine cl_ip (cl_runS (rest := [.int (fl i)]) F hW e_X0_70 (c_given hI l (Lk L i) ((fl i)) (hk4 _ (by omega)).1) ⟨Nat.le_of_ble_eq_true rfl, Nat.le_of_ble_eq_true rfl⟩ rfl rfl hl (Nat.le_of_ble_eq_true rfl) dX0_fallingBits_67 ⟨Nat.zero_le _, Nat.zero_le _⟩) hW (fun H locs hW => ?_)
              refine lv_isub hx hb dX0_fallingBits_70 ?_
              refine lv_topi (fun x5 ex5 => ?_)
              refine lv_istore (lv' := [(5, .int x5), (4, .int (nI 1)), (3, .int x3), (0, .ref (xa cx b)), (1, .int (nI (bitsOf (lfall L) i))), (2, .int (nI i))]) hx hb dX0_fallingBits_71 hl (by decide) rfl (fun ls hl => ?_)
              refine lv_aload_n hx hb dX0_fallingBits_73 rfl (lv_at hl 3 rfl) ?_
              refine lv_iload_n hx hb dX0_fallingBits_74 rfl (lv_at hl 5 rfl) ?_
              refine cl_ip (cl_run (rest := []) F hW e_X0_67 (c_standsN hI l hb7 hL hk i (by omega)) ⟨Nat.le_of_ble_eq_true rfl, Nat.le_of_ble_eq_true rfl⟩ (by omega) h0 rfl rfl rfl hl (Nat.le_of_ble_eq_true rfl) dX0_fallingBits_75 ⟨Nat.zero_le _, Nat.zero_le _⟩) hW (fun H locs hW => ?_)
              refine nv_beq (tgt := 105) F dX0_fallingBits_78 (by decide) (fun c_14 => ?_) (fun c_14 => ?_)
              · skip
                refine lv_iinc (v := ((nI (i + 1)))) (lv' := [(2, .int (nI (i + 1))), (5, .int x5), (4, .int (nI 1)), (3, .int x3), (0, .ref (xa cx b)), (1, .int (nI (bitsOf (lfall L) i)))]) hx hb dX0_fallingBits_105 hl (k := 5) rfl (nI_add _ _) (by decide) rfl (fun ls hl => ?_)
                refine lv_goto (tgt := 4) hx hb dX0_fallingBits_108 (by decide) ?_
                have hf : lfall L i = false := by rw [lfall_def]; first | (rw [‹lst L i = false›]; rfl) | (rw [hh, decide_eq_false (by omega)]; simp)
                have e1 : bitsOf (lfall L) (i + 1) = bitsOf (lfall L) i := by show bitsOf (lfall L) i ||| (if lfall L i = true then 2 ^ i else 0) = _; rw [if_neg (by rw [hf]; decide), Nat.or_zero]
                exact ih (i + 1) _ _ _ (by omega) hW (by rw [e1]; exact lv_sub hl [4, 5, 0] rfl)
              · skip
                refine lv_iload hx hb dX0_fallingBits_81 (lv_at hl 1 rfl) ?_
                refine nv_zeq (tgt := 99) F (by decide) dX0_fallingBits_83 (by decide) (fun c_15 => ?_) (fun c_15 => ?_)
                · skip
                  exact absurd c_15 (by decide)
                · skip
                  have e5 : x5 = nI (lgr L i) := by rw [ex5, hv2 i ‹lst L i = true›, gvI_nI (by have := lok_l hk i; omega), pk_sub (gv_le _ _)]; unfold lgr; rw [if_pos ‹lst L i = true›]
                  refine lv_iload hx hb dX0_fallingBits_86 (lv_at hl 0 rfl) ?_
                  refine nv_top (y := ((nI (lgr L i)))) e5 ?_
                  refine lv_iconst (v := nI 3) hx hb dX0_fallingBits_88 (by decide) ?_
                  refine lv_aload_n hx hb dX0_fallingBits_89 rfl (lv_at hl 3 rfl) ?_
                  refine nv_get F hW (by omega) h0 rfl iX0 2 (by decide) tw_83 rfl dX0_fallingBits_90 ?_
                  refine lv_iload_n hx hb dX0_fallingBits_93 rfl (lv_at hl 5 rfl) ?_
                  refine nv_ialdN (x := ((nI (Lg L i)))) F hW (by omega) h3 (by omega) (by decide) (hv i (by omega)).2.2.1 dX0_fallingBits_94 ?_
                  refine nv_mul F dX0_fallingBits_95 ?_
                  refine nv_cle (tgt := 105) F (by have := lok_l hk i; have := lgr_le L i; omega) (by have := (hk4 i (by omega)).2.2.1; omega) dX0_fallingBits_96 (by decide) (fun c_16 => ?_) (fun c_16 => ?_)
                  · skip
                    refine lv_iinc (v := ((nI (i + 1)))) (lv' := [(2, .int (nI (i + 1))), (5, .int x5), (4, .int (nI 1)), (3, .int x3), (0, .ref (xa cx b)), (1, .int (nI (bitsOf (lfall L) i)))]) hx hb dX0_fallingBits_105 hl (k := 5) rfl (nI_add _ _) (by decide) rfl (fun ls hl => ?_)
                    refine lv_goto (tgt := 4) hx hb dX0_fallingBits_108 (by decide) ?_
                    have hf : lfall L i = false := by rw [lfall_def]; first | (rw [‹lst L i = false›]; rfl) | (rw [hh, decide_eq_false (by omega)]; simp)
                    have e1 : bitsOf (lfall L) (i + 1) = bitsOf (lfall L) i := by show bitsOf (lfall L) i ||| (if lfall L i = true then 2 ^ i else 0) = _; rw [if_neg (by rw [hf]; decide), Nat.or_zero]
                    exact ih (i + 1) _ _ _ (by omega) hW (by rw [e1]; exact lv_sub hl [4, 5, 0] rfl)
                  · skip
                    refine lv_iload_n hx hb dX0_fallingBits_99 rfl (lv_at hl 4 rfl) ?_
                    refine lv_iconst (v := nI 1) hx hb dX0_fallingBits_100 (by decide) ?_
                    refine lv_iload_n hx hb dX0_fallingBits_101 rfl (lv_at hl 5 rfl) ?_
                    refine nv_shl F (by omega) (pow2_lt (by omega)) dX0_fallingBits_102 ?_
                    refine nv_top (y := ((nI (2 ^ i)))) (by rw [Nat.one_mul]) ?_
                    refine nv_or F dX0_fallingBits_103 ?_
                    refine lv_istore_n (lv' := [(1, .int (nI ((bitsOf (lfall L) i) ||| (2 ^ i)))), (5, .int x5), (4, .int (nI 1)), (3, .int x3), (0, .ref (xa cx b)), (2, .int (nI i))]) hx hb dX0_fallingBits_104 rfl hl (by decide) rfl (fun ls hl => ?_)
                    refine lv_iinc (v := ((nI (i + 1)))) (lv' := [(2, .int (nI (i + 1))), (1, .int (nI ((bitsOf (lfall L) i) ||| (2 ^ i)))), (5, .int x5), (4, .int (nI 1)), (3, .int x3), (0, .ref (xa cx b))]) hx hb dX0_fallingBits_105 hl (k := 5) rfl (nI_add _ _) (by decide) rfl (fun ls hl => ?_)
                    refine lv_goto (tgt := 4) hx hb dX0_fallingBits_108 (by decide) ?_
                    have hf : lfall L i = true := by rw [lfall_def, ‹lst L i = true›]; first | (rw [hh]; rfl) | (rw [decide_eq_true (by omega)]; simp)
                    have e1 : bitsOf (lfall L) (i + 1) = bitsOf (lfall L) i ||| 2 ^ i := by show bitsOf (lfall L) i ||| (if lfall L i = true then 2 ^ i else 0) = _; rw [if_pos hf]
                    exact ih (i + 1) _ _ _ (by omega) hW (by rw [e1]; exact lv_sub hl [5, 1, 0] rfl)
  exact LOOP (Ln L) 0 _ _ _ (by omega) hW (lv_sub hl [2, 1, 0] rfl)

set_option maxHeartbeats 4000000 in
set_option maxRecDepth 100000 in
theorem c_bitCount {cx : CX} (hI : xI cx) (l : Launch) {μ : ME} (x : Nat) (hx64 : x < 64) : MT cx l yJ6_bitCount cJ6_bitCount 1 (some .int) 0 0 [.int (nI x)] μ (Pi cx μ (nI (pop x))) := by
  refine mt_of hI (by decide) (Nat.le_of_ble_eq_true rfl) ?_
  intro p e s m below meth c ls F hr hlk hW hl
  have hx := F.1.1
  have hb := F.1.2.1
  have hts := F.1.2.2.2.2
  have hl : lv_has ls 1 [(0, .int (nI x))] := hl
  refine lv_iload_n hx hb dJ6_bitCount_0 rfl (lv_at hl 0 rfl) ?_
  refine lv_iload_n hx hb dJ6_bitCount_1 rfl (lv_at hl 0 rfl) ?_
  refine lv_iconst (v := nI 1) hx hb dJ6_bitCount_2 (by decide) ?_
  refine lv_iushr hx hb dJ6_bitCount_3 rfl ?_
  refine lv_ldcw (v := nI 1431655765) hx hb F.1.2.2.2.1 (hts _ tw_324) dJ6_bitCount_4 ?_
  refine lv_iand hx hb dJ6_bitCount_7 ?_
  refine lv_isub hx hb dJ6_bitCount_8 ?_
  refine lv_istore_n (lv' := [(0, .int (((nI x)) - (((((((nI x)).toUInt32 >>> (((nI 1)).toUInt32 &&& Int32.toUInt32 31)).toInt32)) &&& ((nI 1431655765))))))]) hx hb dJ6_bitCount_9 rfl hl (by decide) rfl (fun ls hl => ?_)
  refine lv_iload_n hx hb dJ6_bitCount_10 rfl (lv_at hl 0 rfl) ?_
  refine lv_ldcw (v := nI 858993459) hx hb F.1.2.2.2.1 (hts _ tw_325) dJ6_bitCount_11 ?_
  refine lv_iand hx hb dJ6_bitCount_14 ?_
  refine lv_iload_n hx hb dJ6_bitCount_15 rfl (lv_at hl 0 rfl) ?_
  refine lv_iconst (v := nI 2) hx hb dJ6_bitCount_16 (by decide) ?_
  refine lv_iushr hx hb dJ6_bitCount_17 rfl ?_
  refine lv_ldcw (v := nI 858993459) hx hb F.1.2.2.2.1 (hts _ tw_325) dJ6_bitCount_18 ?_
  refine lv_iand hx hb dJ6_bitCount_21 ?_
  refine lv_iadd hx hb dJ6_bitCount_22 ?_
  refine lv_istore_n (lv' := [(0, .int (((((((nI x)) - (((((((nI x)).toUInt32 >>> (((nI 1)).toUInt32 &&& Int32.toUInt32 31)).toInt32)) &&& ((nI 1431655765)))))) &&& ((nI 858993459)))) + (((((((((nI x)) - (((((((nI x)).toUInt32 >>> (((nI 1)).toUInt32 &&& Int32.toUInt32 31)).toInt32)) &&& ((nI 1431655765)))))).toUInt32 >>> (((nI 2)).toUInt32 &&& Int32.toUInt32 31)).toInt32)) &&& ((nI 858993459))))))]) hx hb dJ6_bitCount_23 rfl hl (by decide) rfl (fun ls hl => ?_)
  refine lv_iload_n hx hb dJ6_bitCount_24 rfl (lv_at hl 0 rfl) ?_
  refine lv_iload_n hx hb dJ6_bitCount_25 rfl (lv_at hl 0 rfl) ?_
  refine lv_iconst (v := nI 4) hx hb dJ6_bitCount_26 (by decide) ?_
  refine lv_iushr hx hb dJ6_bitCount_27 rfl ?_
  refine lv_iadd hx hb dJ6_bitCount_28 ?_
  refine lv_ldcw (v := nI 252645135) hx hb F.1.2.2.2.1 (hts _ tw_326) dJ6_bitCount_29 ?_
  refine lv_iand hx hb dJ6_bitCount_32 ?_
  refine lv_istore_n (lv' := [(0, .int (((((((((((nI x)) - (((((((nI x)).toUInt32 >>> (((nI 1)).toUInt32 &&& Int32.toUInt32 31)).toInt32)) &&& ((nI 1431655765)))))) &&& ((nI 858993459)))) + (((((((((nI x)) - (((((((nI x)).toUInt32 >>> (((nI 1)).toUInt32 &&& Int32.toUInt32 31)).toInt32)) &&& ((nI 1431655765)))))).toUInt32 >>> (((nI 2)).toUInt32 &&& Int32.toUInt32 31)).toInt32)) &&& ((nI 858993459)))))) + (((((((((((nI x)) - (((((((nI x)).toUInt32 >>> (((nI 1)).toUInt32 &&& Int32.toUInt32 31)).toInt32)) &&& ((nI 1431655765)))))) &&& ((nI 858993459)))) + (((((((((nI x)) - (((((((nI x)).toUInt32 >>> (((nI 1)).toUInt32 &&& Int32.toUInt32 31)).toInt32)) &&& ((nI 1431655765)))))).toUInt32 >>> (((nI 2)).toUInt32 &&& Int32.toUInt32 31)).toInt32)) &&& ((nI 858993459)))))).toUInt32 >>> (((nI 4)).toUInt32 &&& Int32.toUInt32 31)).toInt32)))) &&& ((nI 252645135))))]) hx hb dJ6_bitCount_33 rfl hl (by decide) rfl (fun ls hl => ?_)
  refine lv_iload_n hx hb dJ6_bitCount_34 rfl (lv_at hl 0 rfl) ?_
  refine lv_iload_n hx hb dJ6_bitCount_35 rfl (lv_at hl 0 rfl) ?_
  refine lv_bipush (v := nI 8) hx hb dJ6_bitCount_36 (by decide) ?_
  refine lv_iushr hx hb dJ6_bitCount_38 rfl ?_
  refine lv_iadd hx hb dJ6_bitCount_39 ?_
  refine lv_istore_n (lv' := [(0, .int (((((((((((((nI x)) - (((((((nI x)).toUInt32 >>> (((nI 1)).toUInt32 &&& Int32.toUInt32 31)).toInt32)) &&& ((nI 1431655765)))))) &&& ((nI 858993459)))) + (((((((((nI x)) - (((((((nI x)).toUInt32 >>> (((nI 1)).toUInt32 &&& Int32.toUInt32 31)).toInt32)) &&& ((nI 1431655765)))))).toUInt32 >>> (((nI 2)).toUInt32 &&& Int32.toUInt32 31)).toInt32)) &&& ((nI 858993459)))))) + (((((((((((nI x)) - (((((((nI x)).toUInt32 >>> (((nI 1)).toUInt32 &&& Int32.toUInt32 31)).toInt32)) &&& ((nI 1431655765)))))) &&& ((nI 858993459)))) + (((((((((nI x)) - (((((((nI x)).toUInt32 >>> (((nI 1)).toUInt32 &&& Int32.toUInt32 31)).toInt32)) &&& ((nI 1431655765)))))).toUInt32 >>> (((nI 2)).toUInt32 &&& Int32.toUInt32 31)).toInt32)) &&& ((nI 858993459)))))).toUInt32 >>> (((nI 4)).toUInt32 &&& Int32.toUInt32 31)).toInt32)))) &&& ((nI 252645135)))) + (((((((((((((((nI x)) - (((((((nI x)).toUInt32 >>> (((nI 1)).toUInt32 &&& Int32.toUInt32 31)).toInt32)) &&& ((nI 1431655765)))))) &&& ((nI 858993459)))) + (((((((((nI x)) - (((((((nI x)).toUInt32 >>> (((nI 1)).toUInt32 &&& Int32.toUInt32 31)).toInt32)) &&& ((nI 1431655765)))))).toUInt32 >>> (((nI 2)).toUInt32 &&& Int32.toUInt32 31)).toInt32)) &&& ((nI 858993459)))))) + (((((((((((nI x)) - (((((((nI x)).toUInt32 >>> (((nI 1)).toUInt32 &&& Int32.toUInt32 31)).toInt32)) &&& ((nI 1431655765)))))) &&& ((nI 858993459)))) + (((((((((nI x)) - (((((((nI x)).toUInt32 >>> (((nI 1)).toUInt32 &&& Int32.toUInt32 31)).toInt32)) &&& ((nI 1431655765)))))).toUInt32 >>> (((nI 2)).toUInt32 &&& Int32.toUInt32 31)).toInt32)) &&& ((nI 858993459)))))).toUInt32 >>> (((nI 4)).toUInt32 &&& Int32.toUInt32 31)).toInt32)))) &&& ((nI 252645135)))).toUInt32 >>> (((nI 8)).toUInt32 &&& Int32.toUInt32 31)).toInt32))))]) hx hb dJ6_bitCount_40 rfl hl (by decide) rfl (fun ls hl => ?_)
  refine lv_iload_n hx hb dJ6_bitCount_41 rfl (lv_at hl 0 rfl) ?_
  refine lv_iload_n hx hb dJ6_bitCount_42 rfl (lv_at hl 0 rfl) ?_
  refine lv_bipush (v := nI 16) hx hb dJ6_bitCount_43 (by decide) ?_
  refine lv_iushr hx hb dJ6_bitCount_45 rfl ?_
  refine lv_iadd hx hb dJ6_bitCount_46 ?_
  refine lv_istore_n (lv' := [(0, .int (((((((((((((((nI x)) - (((((((nI x)).toUInt32 >>> (((nI 1)).toUInt32 &&& Int32.toUInt32 31)).toInt32)) &&& ((nI 1431655765)))))) &&& ((nI 858993459)))) + (((((((((nI x)) - (((((((nI x)).toUInt32 >>> (((nI 1)).toUInt32 &&& Int32.toUInt32 31)).toInt32)) &&& ((nI 1431655765)))))).toUInt32 >>> (((nI 2)).toUInt32 &&& Int32.toUInt32 31)).toInt32)) &&& ((nI 858993459)))))) + (((((((((((nI x)) - (((((((nI x)).toUInt32 >>> (((nI 1)).toUInt32 &&& Int32.toUInt32 31)).toInt32)) &&& ((nI 1431655765)))))) &&& ((nI 858993459)))) + (((((((((nI x)) - (((((((nI x)).toUInt32 >>> (((nI 1)).toUInt32 &&& Int32.toUInt32 31)).toInt32)) &&& ((nI 1431655765)))))).toUInt32 >>> (((nI 2)).toUInt32 &&& Int32.toUInt32 31)).toInt32)) &&& ((nI 858993459)))))).toUInt32 >>> (((nI 4)).toUInt32 &&& Int32.toUInt32 31)).toInt32)))) &&& ((nI 252645135)))) + (((((((((((((((nI x)) - (((((((nI x)).toUInt32 >>> (((nI 1)).toUInt32 &&& Int32.toUInt32 31)).toInt32)) &&& ((nI 1431655765)))))) &&& ((nI 858993459)))) + (((((((((nI x)) - (((((((nI x)).toUInt32 >>> (((nI 1)).toUInt32 &&& Int32.toUInt32 31)).toInt32)) &&& ((nI 1431655765)))))).toUInt32 >>> (((nI 2)).toUInt32 &&& Int32.toUInt32 31)).toInt32)) &&& ((nI 858993459)))))) + (((((((((((nI x)) - (((((((nI x)).toUInt32 >>> (((nI 1)).toUInt32 &&& Int32.toUInt32 31)).toInt32)) &&& ((nI 1431655765)))))) &&& ((nI 858993459)))) + (((((((((nI x)) - (((((((nI x)).toUInt32 >>> (((nI 1)).toUInt32 &&& Int32.toUInt32 31)).toInt32)) &&& ((nI 1431655765)))))).toUInt32 >>> (((nI 2)).toUInt32 &&& Int32.toUInt32 31)).toInt32)) &&& ((nI 858993459)))))).toUInt32 >>> (((nI 4)).toUInt32 &&& Int32.toUInt32 31)).toInt32)))) &&& ((nI 252645135)))).toUInt32 >>> (((nI 8)).toUInt32 &&& Int32.toUInt32 31)).toInt32)))) + (((((((((((((((((nI x)) - (((((((nI x)).toUInt32 >>> (((nI 1)).toUInt32 &&& Int32.toUInt32 31)).toInt32)) &&& ((nI 1431655765)))))) &&& ((nI 858993459)))) + (((((((((nI x)) - (((((((nI x)).toUInt32 >>> (((nI 1)).toUInt32 &&& Int32.toUInt32 31)).toInt32)) &&& ((nI 1431655765)))))).toUInt32 >>> (((nI 2)).toUInt32 &&& Int32.toUInt32 31)).toInt32)) &&& ((nI 858993459)))))) + (((((((((((nI x)) - (((((((nI x)).toUInt32 >>> (((nI 1)).toUInt32 &&& Int32.toUInt32 31)).toInt32)) &&& ((nI 1431655765)))))) &&& ((nI 858993459)))) + (((((((((nI x)) - (((((((nI x)).toUInt32 >>> (((nI 1)).toUInt32 &&& Int32.toUInt32 31)).toInt32)) &&& ((nI 1431655765)))))).toUInt32 >>> (((nI 2)).toUInt32 &&& Int32.toUInt32 31)).toInt32)) &&& ((nI 858993459)))))).toUInt32 >>> (((nI 4)).toUInt32 &&& Int32.toUInt32 31)).toInt32)))) &&& ((nI 252645135)))) + (((((((((((((((nI x)) - (((((((nI x)).toUInt32 >>> (((nI 1)).toUInt32 &&& Int32.toUInt32 31)).toInt32)) &&& ((nI 1431655765)))))) &&& ((nI 858993459)))) + (((((((((nI x)) - (((((((nI x)).toUInt32 >>> (((nI 1)).toUInt32 &&& Int32.toUInt32 31)).toInt32)) &&& ((nI 1431655765)))))).toUInt32 >>> (((nI 2)).toUInt32 &&& Int32.toUInt32 31)).toInt32)) &&& ((nI 858993459)))))) + (((((((((((nI x)) - (((((((nI x)).toUInt32 >>> (((nI 1)).toUInt32 &&& Int32.toUInt32 31)).toInt32)) &&& ((nI 1431655765)))))) &&& ((nI 858993459)))) + (((((((((nI x)) - (((((((nI x)).toUInt32 >>> (((nI 1)).toUInt32 &&& Int32.toUInt32 31)).toInt32)) &&& ((nI 1431655765)))))).toUInt32 >>> (((nI 2)).toUInt32 &&& Int32.toUInt32 31)).toInt32)) &&& ((nI 858993459)))))).toUInt32 >>> (((nI 4)).toUInt32 &&& Int32.toUInt32 31)).toInt32)))) &&& ((nI 252645135)))).toUInt32 >>> (((nI 8)).toUInt32 &&& Int32.toUInt32 31)).toInt32)))).toUInt32 >>> (((nI 16)).toUInt32 &&& Int32.toUInt32 31)).toInt32))))]) hx hb dJ6_bitCount_47 rfl hl (by decide) rfl (fun ls hl => ?_)
  refine lv_iload_n hx hb dJ6_bitCount_48 rfl (lv_at hl 0 rfl) ?_
  refine lv_bipush (v := nI 63) hx hb dJ6_bitCount_49 (by decide) ?_
  refine lv_iand hx hb dJ6_bitCount_51 ?_
  exact rt_ip F hr hlk hW ((show ∀ z, z < 64 → ((((((((((((((((((nI z)) - (((((((nI z)).toUInt32 >>> (((nI 1)).toUInt32 &&& Int32.toUInt32 31)).toInt32)) &&& ((nI 1431655765)))))) &&& ((nI 858993459)))) + (((((((((nI z)) - (((((((nI z)).toUInt32 >>> (((nI 1)).toUInt32 &&& Int32.toUInt32 31)).toInt32)) &&& ((nI 1431655765)))))).toUInt32 >>> (((nI 2)).toUInt32 &&& Int32.toUInt32 31)).toInt32)) &&& ((nI 858993459)))))) + (((((((((((nI z)) - (((((((nI z)).toUInt32 >>> (((nI 1)).toUInt32 &&& Int32.toUInt32 31)).toInt32)) &&& ((nI 1431655765)))))) &&& ((nI 858993459)))) + (((((((((nI z)) - (((((((nI z)).toUInt32 >>> (((nI 1)).toUInt32 &&& Int32.toUInt32 31)).toInt32)) &&& ((nI 1431655765)))))).toUInt32 >>> (((nI 2)).toUInt32 &&& Int32.toUInt32 31)).toInt32)) &&& ((nI 858993459)))))).toUInt32 >>> (((nI 4)).toUInt32 &&& Int32.toUInt32 31)).toInt32)))) &&& ((nI 252645135)))) + (((((((((((((((nI z)) - (((((((nI z)).toUInt32 >>> (((nI 1)).toUInt32 &&& Int32.toUInt32 31)).toInt32)) &&& ((nI 1431655765)))))) &&& ((nI 858993459)))) + (((((((((nI z)) - (((((((nI z)).toUInt32 >>> (((nI 1)).toUInt32 &&& Int32.toUInt32 31)).toInt32)) &&& ((nI 1431655765)))))).toUInt32 >>> (((nI 2)).toUInt32 &&& Int32.toUInt32 31)).toInt32)) &&& ((nI 858993459)))))) + (((((((((((nI z)) - (((((((nI z)).toUInt32 >>> (((nI 1)).toUInt32 &&& Int32.toUInt32 31)).toInt32)) &&& ((nI 1431655765)))))) &&& ((nI 858993459)))) + (((((((((nI z)) - (((((((nI z)).toUInt32 >>> (((nI 1)).toUInt32 &&& Int32.toUInt32 31)).toInt32)) &&& ((nI 1431655765)))))).toUInt32 >>> (((nI 2)).toUInt32 &&& Int32.toUInt32 31)).toInt32)) &&& ((nI 858993459)))))).toUInt32 >>> (((nI 4)).toUInt32 &&& Int32.toUInt32 31)).toInt32)))) &&& ((nI 252645135)))).toUInt32 >>> (((nI 8)).toUInt32 &&& Int32.toUInt32 31)).toInt32)))) + (((((((((((((((((nI z)) - (((((((nI z)).toUInt32 >>> (((nI 1)).toUInt32 &&& Int32.toUInt32 31)).toInt32)) &&& ((nI 1431655765)))))) &&& ((nI 858993459)))) + (((((((((nI z)) - (((((((nI z)).toUInt32 >>> (((nI 1)).toUInt32 &&& Int32.toUInt32 31)).toInt32)) &&& ((nI 1431655765)))))).toUInt32 >>> (((nI 2)).toUInt32 &&& Int32.toUInt32 31)).toInt32)) &&& ((nI 858993459)))))) + (((((((((((nI z)) - (((((((nI z)).toUInt32 >>> (((nI 1)).toUInt32 &&& Int32.toUInt32 31)).toInt32)) &&& ((nI 1431655765)))))) &&& ((nI 858993459)))) + (((((((((nI z)) - (((((((nI z)).toUInt32 >>> (((nI 1)).toUInt32 &&& Int32.toUInt32 31)).toInt32)) &&& ((nI 1431655765)))))).toUInt32 >>> (((nI 2)).toUInt32 &&& Int32.toUInt32 31)).toInt32)) &&& ((nI 858993459)))))).toUInt32 >>> (((nI 4)).toUInt32 &&& Int32.toUInt32 31)).toInt32)))) &&& ((nI 252645135)))) + (((((((((((((((nI z)) - (((((((nI z)).toUInt32 >>> (((nI 1)).toUInt32 &&& Int32.toUInt32 31)).toInt32)) &&& ((nI 1431655765)))))) &&& ((nI 858993459)))) + (((((((((nI z)) - (((((((nI z)).toUInt32 >>> (((nI 1)).toUInt32 &&& Int32.toUInt32 31)).toInt32)) &&& ((nI 1431655765)))))).toUInt32 >>> (((nI 2)).toUInt32 &&& Int32.toUInt32 31)).toInt32)) &&& ((nI 858993459)))))) + (((((((((((nI z)) - (((((((nI z)).toUInt32 >>> (((nI 1)).toUInt32 &&& Int32.toUInt32 31)).toInt32)) &&& ((nI 1431655765)))))) &&& ((nI 858993459)))) + (((((((((nI z)) - (((((((nI z)).toUInt32 >>> (((nI 1)).toUInt32 &&& Int32.toUInt32 31)).toInt32)) &&& ((nI 1431655765)))))).toUInt32 >>> (((nI 2)).toUInt32 &&& Int32.toUInt32 31)).toInt32)) &&& ((nI 858993459)))))).toUInt32 >>> (((nI 4)).toUInt32 &&& Int32.toUInt32 31)).toInt32)))) &&& ((nI 252645135)))).toUInt32 >>> (((nI 8)).toUInt32 &&& Int32.toUInt32 31)).toInt32)))).toUInt32 >>> (((nI 16)).toUInt32 &&& Int32.toUInt32 31)).toInt32)))) &&& ((nI 63))) : Int32) = nI (pop z) from by decide +kernel) x hx64) rfl dJ6_bitCount_52
