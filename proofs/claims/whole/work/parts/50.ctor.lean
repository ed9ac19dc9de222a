set_option maxHeartbeats 4000000 in
set_option maxRecDepth 100000 in
theorem g_X0_init {D : va_G} {T : Nat → ClassId} {h0 : Nat} (l : Launch) {μ : ME} (b : Nat) (hb0 : μ (b) = .inr (0, [.null, .null, .null, .null, .null, .null, .int (nI 0), .int (nI 0), .int (nI 0)])) : GT D T h0 l yX0_init cX0_init 1 1 20 (b + 1) 6 36 [.ref (h0 + b)] μ (fun μ1 => (∀ i, i < b → μ1 i = μ i) ∧ μ1 b = .inr (0, [.ref (h0 + (b + 1)), .ref (h0 + (b + 2)), .ref (h0 + (b + 3)), .ref (h0 + (b + 4)), .ref (h0 + (b + 5)), .ref (h0 + (b + 6)), .int (nI 0), .int (nI 0), .int (nI 0)]) ∧ μ1 (b + 1) = .inl (T 0, 6, .inl (fun _ => nI 0)) ∧ μ1 (b + 2) = .inl (T 0, 6, .inl (fun _ => nI 0)) ∧ μ1 (b + 3) = .inl (T 0, 6, .inl (fun _ => nI 0)) ∧ μ1 (b + 4) = .inl (T 0, 6, .inl (fun _ => nI 0)) ∧ μ1 (b + 5) = .inl (T 0, 6, .inl (fun _ => nI 0)) ∧ μ1 (b + 6) = .inl (T 0, 6, .inl (fun _ => nI 0))) := by
  refine gt_of (by decide) rfl (Nat.le_of_ble_eq_true rfl) ?_
  intro p e s m below meth c ls F hin hr hlk hW hl
  have hsz := hW.2.2.1
  have hx := F.1.1
  have hb := F.1.2.1
  have hl : lv_has ls 1 [(0, .ref (h0 + b))] := hl
  refine lv_aload_n hx hb dX0_init_0 rfl (lv_at hl 0 rfl) ?_
  refine gn_obj F hl.1 tw_80 (Nat.le_of_ble_eq_true rfl) (Nat.le_of_ble_eq_true rfl) (Nat.le_of_ble_eq_true rfl) dX0_init_1 ?_
  refine lv_aload_n hx hb dX0_init_4 rfl (lv_at hl 0 rfl) ?_
  refine lv_bipush (v := nI 6) hx hb dX0_init_5 (by decide) ?_
  refine gn_newa (t := 0) (atype := .int) (ty := .int) F hW rfl tw_109 rfl (fun q => q) rfl (Nat.le_of_ble_eq_true rfl) (by decide) (Nat.le_of_ble_eq_true rfl) (Nat.le_of_ble_eq_true rfl) dX0_init_7 (fun H hW => ?_)
  obtain ⟨locs, elocs⟩ : ∃ z9 : List Loc, z9 = [] := ⟨_, rfl⟩
  rw [← elocs] at hW ⊢
  obtain ⟨μ1, eμ1⟩ : ∃ z9 : ME, z9 = va_up μ (b + 1) (.inl (T 0, 6, .inl (fun _ => nI 0))) := ⟨_, rfl⟩
  have hW : GS D T h0 s (b + 2) μ1 H locs := by rw [eμ1]; exact hW
  have fb_1 : μ1 (b) = .inr (0, [.null, .null, .null, .null, .null, .null, .int (nI 0), .int (nI 0), .int (nI 0)]) := (congrFun eμ1 _).trans ((va_up_ne _ _ (by omega)).trans hb0)
  have fb_1_1 : μ1 (b + 1) = .inl (T 0, 6, .inl (fun _ => nI 0)) := by rw [eμ1, va_up_self]
  refine gn_put (i := b) F hin hW (by omega) (by omega) fb_1 rfl iX0 tyX0 tyX0_ok nmX0 0 (by decide) tw_81 rfl rfl rfl rfl (Nat.le_of_ble_eq_true rfl) dX0_init_9 (fun H locs hW => ?_)
  obtain ⟨μ2, eμ2⟩ : ∃ z9 : ME, z9 = va_up μ1 (b) (.inr (0, [.ref (h0 + (b + 1)), .null, .null, .null, .null, .null, .int (nI 0), .int (nI 0), .int (nI 0)])) := ⟨_, rfl⟩
  have hW : GS D T h0 s (b + 2) μ2 H locs := by rw [eμ2]; exact hW
  have fb_1_2 : μ2 (b + 1) = .inl (T 0, 6, .inl (fun _ => nI 0)) := (congrFun eμ2 _).trans ((va_up_ne _ _ (by omega)).trans fb_1_1)
  have fb_2 : μ2 (b) = .inr (0, [.ref (h0 + (b + 1)), .null, .null, .null, .null, .null, .int (nI 0), .int (nI 0), .int (nI 0)]) := by rw [eμ2, va_up_self]
  refine lv_aload_n hx hb dX0_init_12 rfl (lv_at hl 0 rfl) ?_
  refine lv_bipush (v := nI 6) hx hb dX0_init_13 (by decide) ?_
  refine gn_newa (t := 0) (atype := .int) (ty := .int) F hW rfl tw_109 rfl (fun q => q) rfl (Nat.le_of_ble_eq_true rfl) (by decide) (Nat.le_of_ble_eq_true rfl) (Nat.le_of_ble_eq_true rfl) dX0_init_15 (fun H hW => ?_)
  obtain ⟨μ3, eμ3⟩ : ∃ z9 : ME, z9 = va_up μ2 (b + 2) (.inl (T 0, 6, .inl (fun _ => nI 0))) := ⟨_, rfl⟩
  have hW : GS D T h0 s (b + 3) μ3 H locs := by rw [eμ3]; exact hW
  have fb_1_3 : μ3 (b + 1) = .inl (T 0, 6, .inl (fun _ => nI 0)) := (congrFun eμ3 _).trans ((va_up_ne _ _ (by omega)).trans fb_1_2)
  have fb_3 : μ3 (b) = .inr (0, [.ref (h0 + (b + 1)), .null, .null, .null, .null, .null, .int (nI 0), .int (nI 0), .int (nI 0)]) := (congrFun eμ3 _).trans ((va_up_ne _ _ (by omega)).trans fb_2)
  have fb_2_3 : μ3 (b + 2) = .inl (T 0, 6, .inl (fun _ => nI 0)) := by rw [eμ3, va_up_self]
  refine gn_put (i := b) F hin hW (by omega) (by omega) fb_3 rfl iX0 tyX0 tyX0_ok nmX0 1 (by decide) tw_82 rfl rfl rfl rfl (Nat.le_of_ble_eq_true rfl) dX0_init_17 (fun H locs hW => ?_)
  obtain ⟨μ4, eμ4⟩ : ∃ z9 : ME, z9 = va_up μ3 (b) (.inr (0, [.ref (h0 + (b + 1)), .ref (h0 + (b + 2)), .null, .null, .null, .null, .int (nI 0), .int (nI 0), .int (nI 0)])) := ⟨_, rfl⟩
  have hW : GS D T h0 s (b + 3) μ4 H locs := by rw [eμ4]; exact hW
  have fb_1_4 : μ4 (b + 1) = .inl (T 0, 6, .inl (fun _ => nI 0)) := (congrFun eμ4 _).trans ((va_up_ne _ _ (by omega)).trans fb_1_3)
  have fb_2_4 : μ4 (b + 2) = .inl (T 0, 6, .inl (fun _ => nI 0)) := (congrFun eμ4 _).trans ((va_up_ne _ _ (by omega)).trans fb_2_3)
  have fb_4 : μ4 (b) = .inr (0, [.ref (h0 + (b + 1)), .ref (h0 + (b + 2)), .null, .null, .null, .null, .int (nI 0), .int (nI 0), .int (nI 0)]) := by rw [eμ4, va_up_self]
  refine lv_aload_n hx hb dX0_init_20 rfl (lv_at hl 0 rfl) ?_
  refine lv_bipush (v := nI 6) hx hb dX0_init_21 (by decide) ?_
  refine gn_newa (t := 0) (atype := .int) (ty := .int) F hW rfl tw_109 rfl (fun q => q) rfl (Nat.le_of_ble_eq_true rfl) (by decide) (Nat.le_of_ble_eq_true rfl) (Nat.le_of_ble_eq_true rfl) dX0_init_23 (fun H hW => ?_)
  obtain ⟨μ5, eμ5⟩ : ∃ z9 : ME, z9 = va_up μ4 (b + 3) (.inl (T 0, 6, .inl (fun _ => nI 0))) := ⟨_, rfl⟩
  have hW : GS D T h0 s (b + 4) μ5 H locs := by rw [eμ5]; exact hW
  have fb_1_5 : μ5 (b + 1) = .inl (T 0, 6, .inl (fun _ => nI 0)) := (congrFun eμ5 _).trans ((va_up_ne _ _ (by omega)).trans fb_1_4)
  have fb_2_5 : μ5 (b + 2) = .inl (T 0, 6, .inl (fun _ => nI 0)) := (congrFun eμ5 _).trans ((va_up_ne _ _ (by omega)).trans fb_2_4)
  have fb_5 : μ5 (b) = .inr (0, [.ref (h0 + (b + 1)), .ref (h0 + (b + 2)), .null, .null, .null, .null, .int (nI 0), .int (nI 0), .int (nI 0)]) := (congrFun eμ5 _).trans ((va_up_ne _ _ (by omega)).trans fb_4)
  have fb_3_5 : μ5 (b + 3) = .inl (T 0, 6, .inl (fun _ => nI 0)) := by rw [eμ5, va_up_self]
  refine gn_put (i := b) F hin hW (by omega) (by omega) fb_5 rfl iX0 tyX0 tyX0_ok nmX0 2 (by decide) tw_83 rfl rfl rfl rfl (Nat.le_of_ble_eq_true rfl) dX0_init_25 (fun H locs hW => ?_)
  obtain ⟨μ6, eμ6⟩ : ∃ z9 : ME, z9 = va_up μ5 (b) (.inr (0, [.ref (h0 + (b + 1)), .ref (h0 + (b + 2)), .ref (h0 + (b + 3)), .null, .null, .null, .int (nI 0), .int (nI 0), .int (nI 0)])) := ⟨_, rfl⟩
  have hW : GS D T h0 s (b + 4) μ6 H locs := by rw [eμ6]; exact hW
  have fb_1_6 : μ6 (b + 1) = .inl (T 0, 6, .inl (fun _ => nI 0)) := (congrFun eμ6 _).trans ((va_up_ne _ _ (by omega)).trans fb_1_5)
  have fb_2_6 : μ6 (b + 2) = .inl (T 0, 6, .inl (fun _ => nI 0)) := (congrFun eμ6 _).trans ((va_up_ne _ _ (by omega)).trans fb_2_5)
  have fb_3_6 : μ6 (b + 3) = .inl (T 0, 6, .inl (fun _ => nI 0)) := (congrFun eμ6 _).trans ((va_up_ne _ _ (by omega)).trans fb_3_5)
  have fb_6 : μ6 (b) = .inr (0, [.ref (h0 + (b + 1)), .ref (h0 + (b + 2)), .ref (h0 + (b + 3)), .null, .null, .null, .int (nI 0), .int (nI 0), .int (nI 0)]) := by rw [eμ6, va_up_self]
  refine lv_aload_n hx hb dX0_init_28 rfl (lv_at hl 0 rfl) ?_
  refine lv_bipush (v := nI 6) hx hb dX0_init_29 (by decide) ?_
  refine gn_newa (t := 0) (atype := .int) (ty := .int) F hW rfl tw_109 rfl (fun q => q) rfl (Nat.le_of_ble_eq_true rfl) (by decide) (Nat.le_of_ble_eq_true rfl) (Nat.le_of_ble_eq_true rfl) dX0_init_31 (fun H hW => ?_)
  obtain ⟨μ7, eμ7⟩ : ∃ z9 : ME, z9 = va_up μ6 (b + 4) (.inl (T 0, 6, .inl (fun _ => nI 0))) := ⟨_, rfl⟩
  have hW : GS D T h0 s (b + 5) μ7 H locs := by rw [eμ7]; exact hW
  have fb_1_7 : μ7 (b + 1) = .inl (T 0, 6, .inl (fun _ => nI 0)) := (congrFun eμ7 _).trans ((va_up_ne _ _ (by omega)).trans fb_1_6)
  have fb_2_7 : μ7 (b + 2) = .inl (T 0, 6, .inl (fun _ => nI 0)) := (congrFun eμ7 _).trans ((va_up_ne _ _ (by omega)).trans fb_2_6)
  have fb_3_7 : μ7 (b + 3) = .inl (T 0, 6, .inl (fun _ => nI 0)) := (congrFun eμ7 _).trans ((va_up_ne _ _ (by omega)).trans fb_3_6)
  have fb_7 : μ7 (b) = .inr (0, [.ref (h0 + (b + 1)), .ref (h0 + (b + 2)), .ref (h0 + (b + 3)), .null, .null, .null, .int (nI 0), .int (nI 0), .int (nI 0)]) := (congrFun eμ7 _).trans ((va_up_ne _ _ (by omega)).trans fb_6)
  have fb_4_7 : μ7 (b + 4) = .inl (T 0, 6, .inl (fun _ => nI 0)) := by rw [eμ7, va_up_self]
  refine gn_put (i := b) F hin hW (by omega) (by omega) fb_7 rfl iX0 tyX0 tyX0_ok nmX0 3 (by decide) tw_84 rfl rfl rfl rfl (Nat.le_of_ble_eq_true rfl) dX0_init_33 (fun H locs hW => ?_)
  obtain ⟨μ8, eμ8⟩ : ∃ z9 : ME, z9 = va_up μ7 (b) (.inr (0, [.ref (h0 + (b + 1)), .ref (h0 + (b + 2)), .ref (h0 + (b + 3)), .ref (h0 + (b + 4)), .null, .null, .int (nI 0), .int (nI 0), .int (nI 0)])) := ⟨_, rfl⟩
  have hW : GS D T h0 s (b + 5) μ8 H locs := by rw [eμ8]; exact hW
  have fb_1_8 : μ8 (b + 1) = .inl (T 0, 6, .inl (fun _ => nI 0)) := (congrFun eμ8 _).trans ((va_up_ne _ _ (by omega)).trans fb_1_7)
  have fb_2_8 : μ8 (b + 2) = .inl (T 0, 6, .inl (fun _ => nI 0)) := (congrFun eμ8 _).trans ((va_up_ne _ _ (by omega)).trans fb_2_7)
  have fb_3_8 : μ8 (b + 3) = .inl (T 0, 6, .inl (fun _ => nI 0)) := (congrFun eμ8 _).trans ((va_up_ne _ _ (by omega)).trans fb_3_7)
  have fb_4_8 : μ8 (b + 4) = .inl (T 0, 6, .inl (fun _ => nI 0)) := (congrFun eμ8 _).trans ((va_up_ne _ _ (by omega)).trans fb_4_7)
  have fb_8 : μ8 (b) = .inr (0, [.ref (h0 + (b + 1)), .ref (h0 + (b + 2)), .ref (h0 + (b + 3)), .ref (h0 + (b + 4)), .null, .null, .int (nI 0), .int (nI 0), .int (nI 0)]) := by rw [eμ8, va_up_self]
  refine lv_aload_n hx hb dX0_init_36 rfl (lv_at hl 0 rfl) ?_
  refine lv_bipush (v := nI 6) hx hb dX0_init_37 (by decide) ?_
  refine gn_newa (t := 0) (atype := .int) (ty := .int) F hW rfl tw_109 rfl (fun q => q) rfl (Nat.le_of_ble_eq_true rfl) (by decide) (Nat.le_of_ble_eq_true rfl) (Nat.le_of_ble_eq_true rfl) dX0_init_39 (fun H hW => ?_)
  obtain ⟨μ9, eμ9⟩ : ∃ z9 : ME, z9 = va_up μ8 (b + 5) (.inl (T 0, 6, .inl (fun _ => nI 0))) := ⟨_, rfl⟩
  have hW : GS D T h0 s (b + 6) μ9 H locs := by rw [eμ9]; exact hW
  have fb_1_9 : μ9 (b + 1) = .inl (T 0, 6, .inl (fun _ => nI 0)) := (congrFun eμ9 _).trans ((va_up_ne _ _ (by omega)).trans fb_1_8)
  have fb_2_9 : μ9 (b + 2) = .inl (T 0, 6, .inl (fun _ => nI 0)) := (congrFun eμ9 _).trans ((va_up_ne _ _ (by omega)).trans fb_2_8)
  have fb_3_9 : μ9 (b + 3) = .inl (T 0, 6, .inl (fun _ => nI 0)) := (congrFun eμ9 _).trans ((va_up_ne _ _ (by omega)).trans fb_3_8)
  have fb_4_9 : μ9 (b + 4) = .inl (T 0, 6, .inl (fun _ => nI 0)) := (congrFun eμ9 _).trans ((va_up_ne _ _ (by omega)).trans fb_4_8)
  have fb_9 : μ9 (b) = .inr (0, [.ref (h0 + (b + 1)), .ref (h0 + (b + 2)), .ref (h0 + (b + 3)), .ref (h0 + (b + 4)), .null, .null, .int (nI 0), .int (nI 0), .int (nI 0)]) := (congrFun eμ9 _).trans ((va_up_ne _ _ (by omega)).trans fb_8)
  have fb_5_9 : μ9 (b + 5) = .inl (T 0, 6, .inl (fun _ => nI 0)) := by rw [eμ9, va_up_self]
  refine gn_put (i := b) F hin hW (by omega) (by omega) fb_9 rfl iX0 tyX0 tyX0_ok nmX0 4 (by decide) tw_85 rfl rfl rfl rfl (Nat.le_of_ble_eq_true rfl) dX0_init_41 (fun H locs hW => ?_)
  obtain ⟨μ10, eμ10⟩ : ∃ z9 : ME, z9 = va_up μ9 (b) (.inr (0, [.ref (h0 + (b + 1)), .ref (h0 + (b + 2)), .ref (h0 + (b + 3)), .ref (h0 + (b + 4)), .ref (h0 + (b + 5)), .null, .int (nI 0), .int (nI 0), .int (nI 0)])) := ⟨_, rfl⟩
  have hW : GS D T h0 s (b + 6) μ10 H locs := by rw [eμ10]; exact hW
  have fb_1_10 : μ10 (b + 1) = .inl (T 0, 6, .inl (fun _ => nI 0)) := (congrFun eμ10 _).trans ((va_up_ne _ _ (by omega)).trans fb_1_9)
  have fb_2_10 : μ10 (b + 2) = .inl (T 0, 6, .inl (fun _ => nI 0)) := (congrFun eμ10 _).trans ((va_up_ne _ _ (by omega)).trans fb_2_9)
  have fb_3_10 : μ10 (b + 3) = .inl (T 0, 6, .inl (fun _ => nI 0)) := (congrFun eμ10 _).trans ((va_up_ne _ _ (by omega)).trans fb_3_9)
  have fb_4_10 : μ10 (b + 4) = .inl (T 0, 6, .inl (fun _ => nI 0)) := (congrFun eμ10 _).trans ((va_up_ne _ _ (by omega)).trans fb_4_9)
  have fb_5_10 : μ10 (b + 5) = .inl (T 0, 6, .inl (fun _ => nI 0)) := (congrFun eμ10 _).trans ((va_up_ne _ _ (by omega)).trans fb_5_9)
  have fb_10 : μ10 (b) = .inr (0, [.ref (h0 + (b + 1)), .ref (h0 + (b + 2)), .ref (h0 + (b + 3)), .ref (h0 + (b + 4)), .ref (h0 + (b + 5)), .null, .int (nI 0), .int (nI 0), .int (nI 0)]) := by rw [eμ10, va_up_self]
  refine lv_aload_n hx hb dX0_init_44 rfl (lv_at hl 0 rfl) ?_
  refine lv_bipush (v := nI 6) hx hb dX0_init_45 (by decide) ?_
  refine gn_newa (t := 0) (atype := .int) (ty := .int) F hW rfl tw_109 rfl (fun q => q) rfl (Nat.le_of_ble_eq_true rfl) (by decide) (Nat.le_of_ble_eq_true rfl) (Nat.le_of_ble_eq_true rfl) dX0_init_47 (fun H hW => ?_)
  obtain ⟨μ11, eμ11⟩ : ∃ z9 : ME, z9 = va_up μ10 (b + 6) (.inl (T 0, 6, .inl (fun _ => nI 0))) := ⟨_, rfl⟩
  have hW : GS D T h0 s (b + 7) μ11 H locs := by rw [eμ11]; exact hW
  have fb_1_11 : μ11 (b + 1) = .inl (T 0, 6, .inl (fun _ => nI 0)) := (congrFun eμ11 _).trans ((va_up_ne _ _ (by omega)).trans fb_1_10)
  have fb_2_11 : μ11 (b + 2) = .inl (T 0, 6, .inl (fun _ => nI 0)) := (congrFun eμ11 _).trans ((va_up_ne _ _ (by omega)).trans fb_2_10)
  have fb_3_11 : μ11 (b + 3) = .inl (T 0, 6, .inl (fun _ => nI 0)) := (congrFun eμ11 _).trans ((va_up_ne _ _ (by omega)).trans fb_3_10)
  have fb_4_11 : μ11 (b + 4) = .inl (T 0, 6, .inl (fun _ => nI 0)) := (congrFun eμ11 _).trans ((va_up_ne _ _ (by omega)).trans fb_4_10)
  have fb_5_11 : μ11 (b + 5) = .inl (T 0, 6, .inl (fun _ => nI 0)) := (congrFun eμ11 _).trans ((va_up_ne _ _ (by omega)).trans fb_5_10)
  have fb_11 : μ11 (b) = .inr (0, [.ref (h0 + (b + 1)), .ref (h0 + (b + 2)), .ref (h0 + (b + 3)), .ref (h0 + (b + 4)), .ref (h0 + (b + 5)), .null, .int (nI 0), .int (nI 0), .int (nI 0)]) := (congrFun eμ11 _).trans ((va_up_ne _ _ (by omega)).trans fb_10)
  have fb_6_11 : μ11 (b + 6) = .inl (T 0, 6, .inl (fun _ => nI 0)) := by rw [eμ11, va_up_self]
  refine gn_put (i := b) F hin hW (by omega) (by omega) fb_11 rfl iX0 tyX0 tyX0_ok nmX0 5 (by decide) tw_86 rfl rfl rfl rfl (Nat.le_of_ble_eq_true rfl) dX0_init_49 (fun H locs hW => ?_)
  obtain ⟨μ12, eμ12⟩ : ∃ z9 : ME, z9 = va_up μ11 (b) (.inr (0, [.ref (h0 + (b + 1)), .ref (h0 + (b + 2)), .ref (h0 + (b + 3)), .ref (h0 + (b + 4)), .ref (h0 + (b + 5)), .ref (h0 + (b + 6)), .int (nI 0), .int (nI 0), .int (nI 0)])) := ⟨_, rfl⟩
  have hW : GS D T h0 s (b + 7) μ12 H locs := by rw [eμ12]; exact hW
  have fb_1_12 : μ12 (b + 1) = .inl (T 0, 6, .inl (fun _ => nI 0)) := (congrFun eμ12 _).trans ((va_up_ne _ _ (by omega)).trans fb_1_11)
  have fb_2_12 : μ12 (b + 2) = .inl (T 0, 6, .inl (fun _ => nI 0)) := (congrFun eμ12 _).trans ((va_up_ne _ _ (by omega)).trans fb_2_11)
  have fb_3_12 : μ12 (b + 3) = .inl (T 0, 6, .inl (fun _ => nI 0)) := (congrFun eμ12 _).trans ((va_up_ne _ _ (by omega)).trans fb_3_11)
  have fb_4_12 : μ12 (b + 4) = .inl (T 0, 6, .inl (fun _ => nI 0)) := (congrFun eμ12 _).trans ((va_up_ne _ _ (by omega)).trans fb_4_11)
  have fb_5_12 : μ12 (b + 5) = .inl (T 0, 6, .inl (fun _ => nI 0)) := (congrFun eμ12 _).trans ((va_up_ne _ _ (by omega)).trans fb_5_11)
  have fb_6_12 : μ12 (b + 6) = .inl (T 0, 6, .inl (fun _ => nI 0)) := (congrFun eμ12 _).trans ((va_up_ne _ _ (by omega)).trans fb_6_11)
  have fb_12 : μ12 (b) = .inr (0, [.ref (h0 + (b + 1)), .ref (h0 + (b + 2)), .ref (h0 + (b + 3)), .ref (h0 + (b + 4)), .ref (h0 + (b + 5)), .ref (h0 + (b + 6)), .int (nI 0), .int (nI 0), .int (nI 0)]) := by rw [eμ12, va_up_self]
  exact gn_ret (N := b + 1 + 6) (k := 6) (sl := 36) F hr hlk hW ⟨fun i hi => by rw [eμ12, va_up_ne _ _ (by omega)]; rw [eμ11, va_up_ne _ _ (by omega)]; rw [eμ10, va_up_ne _ _ (by omega)]; rw [eμ9, va_up_ne _ _ (by omega)]; rw [eμ8, va_up_ne _ _ (by omega)]; rw [eμ7, va_up_ne _ _ (by omega)]; rw [eμ6, va_up_ne _ _ (by omega)]; rw [eμ5, va_up_ne _ _ (by omega)]; rw [eμ4, va_up_ne _ _ (by omega)]; rw [eμ3, va_up_ne _ _ (by omega)]; rw [eμ2, va_up_ne _ _ (by omega)]; rw [eμ1, va_up_ne _ _ (by omega)], fb_12, fb_1_12, fb_2_12, fb_3_12, fb_4_12, fb_5_12, fb_6_12⟩ dX0_init_52

set_option maxHeartbeats 4000000 in
set_option maxRecDepth 100000 in
theorem g_X3_init {D : va_G} {T : Nat → ClassId} {h0 : Nat} (l : Launch) {μ : ME} (b : Nat) (hb0 : μ (b) = .inr (3, [.null, .int (nI 0)])) : GT D T h0 l yX3_init cX3_init 1 1 20 (b + 1) 1 64 [.ref (h0 + b)] μ (fun μ1 => (∀ i, i < b → μ1 i = μ i) ∧ μ1 b = .inr (3, [.ref (h0 + (b + 1)), .int (nI 0)]) ∧ μ1 (b + 1) = .inl (T 1, 64, .inl (fun _ => nI 0))) := by
  refine gt_of (by decide) rfl (Nat.le_of_ble_eq_true rfl) ?_
  intro p e s m below meth c ls F hin hr hlk hW hl
  have hsz := hW.2.2.1
  have hx := F.1.1
  have hb := F.1.2.1
  have hl : lv_has ls 1 [(0, .ref (h0 + b))] := hl
  refine lv_aload_n hx hb dX3_init_0 rfl (lv_at hl 0 rfl) ?_
  refine gn_obj F hl.1 tw_66 (Nat.le_of_ble_eq_true rfl) (Nat.le_of_ble_eq_true rfl) (Nat.le_of_ble_eq_true rfl) dX3_init_1 ?_
  refine lv_aload_n hx hb dX3_init_4 rfl (lv_at hl 0 rfl) ?_
  refine lv_bipush (v := nI 64) hx hb dX3_init_5 (by decide) ?_
  refine gn_newa (t := 1) (atype := .char) (ty := .char) F hW rfl tw_74 rfl (fun q => q) rfl (Nat.le_of_ble_eq_true rfl) (by decide) (Nat.le_of_ble_eq_true rfl) (Nat.le_of_ble_eq_true rfl) dX3_init_7 (fun H hW => ?_)
  obtain ⟨locs, elocs⟩ : ∃ z9 : List Loc, z9 = [] := ⟨_, rfl⟩
  rw [← elocs] at hW ⊢
  obtain ⟨μ1, eμ1⟩ : ∃ z9 : ME, z9 = va_up μ (b + 1) (.inl (T 1, 64, .inl (fun _ => nI 0))) := ⟨_, rfl⟩
  have hW : GS D T h0 s (b + 2) μ1 H locs := by rw [eμ1]; exact hW
  have fb_1 : μ1 (b) = .inr (3, [.null, .int (nI 0)]) := (congrFun eμ1 _).trans ((va_up_ne _ _ (by omega)).trans hb0)
  have fb_1_1 : μ1 (b + 1) = .inl (T 1, 64, .inl (fun _ => nI 0)) := by rw [eμ1, va_up_self]
  refine gn_put (i := b) F hin hW (by omega) (by omega) fb_1 rfl iX3 tyX3 tyX3_ok nmX3 0 (by decide) tw_67 rfl rfl rfl rfl (Nat.le_of_ble_eq_true rfl) dX3_init_9 (fun H locs hW => ?_)
  obtain ⟨μ2, eμ2⟩ : ∃ z9 : ME, z9 = va_up μ1 (b) (.inr (3, [.ref (h0 + (b + 1)), .int (nI 0)])) := ⟨_, rfl⟩
  have hW : GS D T h0 s (b + 2) μ2 H locs := by rw [eμ2]; exact hW
  have fb_1_2 : μ2 (b + 1) = .inl (T 1, 64, .inl (fun _ => nI 0)) := (congrFun eμ2 _).trans ((va_up_ne _ _ (by omega)).trans fb_1_1)
  have fb_2 : μ2 (b) = .inr (3, [.ref (h0 + (b + 1)), .int (nI 0)]) := by rw [eμ2, va_up_self]
  exact gn_ret (N := b + 1 + 1) (k := 1) (sl := 64) F hr hlk hW ⟨fun i hi => by rw [eμ2, va_up_ne _ _ (by omega)]; rw [eμ1, va_up_ne _ _ (by omega)], fb_2, fb_1_2⟩ dX3_init_12

set_option maxHeartbeats 4000000 in
set_option maxRecDepth 100000 in
theorem g_X2_init {D : va_G} {T : Nat → ClassId} {h0 : Nat} (l : Launch) {μ : ME} (b : Nat) (hb0 : μ (b) = .inr (2, [.null, .null, .null, .int (nI 0)])) : GT D T h0 l yX2_init cX2_init 1 1 20 (b + 1) 3 18 [.ref (h0 + b)] μ (fun μ1 => (∀ i, i < b → μ1 i = μ i) ∧ μ1 b = .inr (2, [.ref (h0 + (b + 1)), .ref (h0 + (b + 2)), .ref (h0 + (b + 3)), .int (nI 0)]) ∧ μ1 (b + 1) = .inl (T 0, 6, .inl (fun _ => nI 0)) ∧ μ1 (b + 2) = .inl (T 0, 6, .inl (fun _ => nI 0)) ∧ μ1 (b + 3) = .inl (T 0, 6, .inl (fun _ => nI 0))) := by
  refine gt_of (by decide) rfl (Nat.le_of_ble_eq_true rfl) ?_
  intro p e s m below meth c ls F hin hr hlk hW hl
  have hsz := hW.2.2.1
  have hx := F.1.1
  have hb := F.1.2.1
  have hl : lv_has ls 1 [(0, .ref (h0 + b))] := hl
  refine lv_aload_n hx hb dX2_init_0 rfl (lv_at hl 0 rfl) ?_
  refine gn_obj F hl.1 tw_134 (Nat.le_of_ble_eq_true rfl) (Nat.le_of_ble_eq_true rfl) (Nat.le_of_ble_eq_true rfl) dX2_init_1 ?_
  refine lv_aload_n hx hb dX2_init_4 rfl (lv_at hl 0 rfl) ?_
  refine lv_bipush (v := nI 6) hx hb dX2_init_5 (by decide) ?_
  refine gn_newa (t := 0) (atype := .int) (ty := .int) F hW rfl tw_109 rfl (fun q => q) rfl (Nat.le_of_ble_eq_true rfl) (by decide) (Nat.le_of_ble_eq_true rfl) (Nat.le_of_ble_eq_true rfl) dX2_init_7 (fun H hW => ?_)
  obtain ⟨locs, elocs⟩ : ∃ z9 : List Loc, z9 = [] := ⟨_, rfl⟩
  rw [← elocs] at hW ⊢
  obtain ⟨μ1, eμ1⟩ : ∃ z9 : ME, z9 = va_up μ (b + 1) (.inl (T 0, 6, .inl (fun _ => nI 0))) := ⟨_, rfl⟩
  have hW : GS D T h0 s (b + 2) μ1 H locs := by rw [eμ1]; exact hW
  have fb_1 : μ1 (b) = .inr (2, [.null, .null, .null, .int (nI 0)]) := (congrFun eμ1 _).trans ((va_up_ne _ _ (by omega)).trans hb0)
  have fb_1_1 : μ1 (b + 1) = .inl (T 0, 6, .inl (fun _ => nI 0)) := by rw [eμ1, va_up_self]
  refine gn_put (i := b) F hin hW (by omega) (by omega) fb_1 rfl iX2 tyX2 tyX2_ok nmX2 0 (by decide) tw_135 rfl rfl rfl rfl (Nat.le_of_ble_eq_true rfl) dX2_init_9 (fun H locs hW => ?_)
  obtain ⟨μ2, eμ2⟩ : ∃ z9 : ME, z9 = va_up μ1 (b) (.inr (2, [.ref (h0 + (b + 1)), .null, .null, .int (nI 0)])) := ⟨_, rfl⟩
  have hW : GS D T h0 s (b + 2) μ2 H locs := by rw [eμ2]; exact hW
  have fb_1_2 : μ2 (b + 1) = .inl (T 0, 6, .inl (fun _ => nI 0)) := (congrFun eμ2 _).trans ((va_up_ne _ _ (by omega)).trans fb_1_1)
  have fb_2 : μ2 (b) = .inr (2, [.ref (h0 + (b + 1)), .null, .null, .int (nI 0)]) := by rw [eμ2, va_up_self]
  refine lv_aload_n hx hb dX2_init_12 rfl (lv_at hl 0 rfl) ?_
  refine lv_bipush (v := nI 6) hx hb dX2_init_13 (by decide) ?_
  refine gn_newa (t := 0) (atype := .int) (ty := .int) F hW rfl tw_109 rfl (fun q => q) rfl (Nat.le_of_ble_eq_true rfl) (by decide) (Nat.le_of_ble_eq_true rfl) (Nat.le_of_ble_eq_true rfl) dX2_init_15 (fun H hW => ?_)
  obtain ⟨μ3, eμ3⟩ : ∃ z9 : ME, z9 = va_up μ2 (b + 2) (.inl (T 0, 6, .inl (fun _ => nI 0))) := ⟨_, rfl⟩
  have hW : GS D T h0 s (b + 3) μ3 H locs := by rw [eμ3]; exact hW
  have fb_1_3 : μ3 (b + 1) = .inl (T 0, 6, .inl (fun _ => nI 0)) := (congrFun eμ3 _).trans ((va_up_ne _ _ (by omega)).trans fb_1_2)
  have fb_3 : μ3 (b) = .inr (2, [.ref (h0 + (b + 1)), .null, .null, .int (nI 0)]) := (congrFun eμ3 _).trans ((va_up_ne _ _ (by omega)).trans fb_2)
  have fb_2_3 : μ3 (b + 2) = .inl (T 0, 6, .inl (fun _ => nI 0)) := by rw [eμ3, va_up_self]
  refine gn_put (i := b) F hin hW (by omega) (by omega) fb_3 rfl iX2 tyX2 tyX2_ok nmX2 1 (by decide) tw_136 rfl rfl rfl rfl (Nat.le_of_ble_eq_true rfl) dX2_init_17 (fun H locs hW => ?_)
  obtain ⟨μ4, eμ4⟩ : ∃ z9 : ME, z9 = va_up μ3 (b) (.inr (2, [.ref (h0 + (b + 1)), .ref (h0 + (b + 2)), .null, .int (nI 0)])) := ⟨_, rfl⟩
  have hW : GS D T h0 s (b + 3) μ4 H locs := by rw [eμ4]; exact hW
  have fb_1_4 : μ4 (b + 1) = .inl (T 0, 6, .inl (fun _ => nI 0)) := (congrFun eμ4 _).trans ((va_up_ne _ _ (by omega)).trans fb_1_3)
  have fb_2_4 : μ4 (b + 2) = .inl (T 0, 6, .inl (fun _ => nI 0)) := (congrFun eμ4 _).trans ((va_up_ne _ _ (by omega)).trans fb_2_3)
  have fb_4 : μ4 (b) = .inr (2, [.ref (h0 + (b + 1)), .ref (h0 + (b + 2)), .null, .int (nI 0)]) := by rw [eμ4, va_up_self]
  refine lv_aload_n hx hb dX2_init_20 rfl (lv_at hl 0 rfl) ?_
  refine lv_bipush (v := nI 6) hx hb dX2_init_21 (by decide) ?_
  refine gn_newa (t := 0) (atype := .int) (ty := .int) F hW rfl tw_109 rfl (fun q => q) rfl (Nat.le_of_ble_eq_true rfl) (by decide) (Nat.le_of_ble_eq_true rfl) (Nat.le_of_ble_eq_true rfl) dX2_init_23 (fun H hW => ?_)
  obtain ⟨μ5, eμ5⟩ : ∃ z9 : ME, z9 = va_up μ4 (b + 3) (.inl (T 0, 6, .inl (fun _ => nI 0))) := ⟨_, rfl⟩
  have hW : GS D T h0 s (b + 4) μ5 H locs := by rw [eμ5]; exact hW
  have fb_1_5 : μ5 (b + 1) = .inl (T 0, 6, .inl (fun _ => nI 0)) := (congrFun eμ5 _).trans ((va_up_ne _ _ (by omega)).trans fb_1_4)
  have fb_2_5 : μ5 (b + 2) = .inl (T 0, 6, .inl (fun _ => nI 0)) := (congrFun eμ5 _).trans ((va_up_ne _ _ (by omega)).trans fb_2_4)
  have fb_5 : μ5 (b) = .inr (2, [.ref (h0 + (b + 1)), .ref (h0 + (b + 2)), .null, .int (nI 0)]) := (congrFun eμ5 _).trans ((va_up_ne _ _ (by omega)).trans fb_4)
  have fb_3_5 : μ5 (b + 3) = .inl (T 0, 6, .inl (fun _ => nI 0)) := by rw [eμ5, va_up_self]
  refine gn_put (i := b) F hin hW (by omega) (by omega) fb_5 rfl iX2 tyX2 tyX2_ok nmX2 2 (by decide) tw_137 rfl rfl rfl rfl (Nat.le_of_ble_eq_true rfl) dX2_init_25 (fun H locs hW => ?_)
  obtain ⟨μ6, eμ6⟩ : ∃ z9 : ME, z9 = va_up μ5 (b) (.inr (2, [.ref (h0 + (b + 1)), .ref (h0 + (b + 2)), .ref (h0 + (b + 3)), .int (nI 0)])) := ⟨_, rfl⟩
  have hW : GS D T h0 s (b + 4) μ6 H locs := by rw [eμ6]; exact hW
  have fb_1_6 : μ6 (b + 1) = .inl (T 0, 6, .inl (fun _ => nI 0)) := (congrFun eμ6 _).trans ((va_up_ne _ _ (by omega)).trans fb_1_5)
  have fb_2_6 : μ6 (b + 2) = .inl (T 0, 6, .inl (fun _ => nI 0)) := (congrFun eμ6 _).trans ((va_up_ne _ _ (by omega)).trans fb_2_5)
  have fb_3_6 : μ6 (b + 3) = .inl (T 0, 6, .inl (fun _ => nI 0)) := (congrFun eμ6 _).trans ((va_up_ne _ _ (by omega)).trans fb_3_5)
  have fb_6 : μ6 (b) = .inr (2, [.ref (h0 + (b + 1)), .ref (h0 + (b + 2)), .ref (h0 + (b + 3)), .int (nI 0)]) := by rw [eμ6, va_up_self]
  exact gn_ret (N := b + 1 + 3) (k := 3) (sl := 18) F hr hlk hW ⟨fun i hi => by rw [eμ6, va_up_ne _ _ (by omega)]; rw [eμ5, va_up_ne _ _ (by omega)]; rw [eμ4, va_up_ne _ _ (by omega)]; rw [eμ3, va_up_ne _ _ (by omega)]; rw [eμ2, va_up_ne _ _ (by omega)]; rw [eμ1, va_up_ne _ _ (by omega)], fb_6, fb_1_6, fb_2_6, fb_3_6⟩ dX2_init_28

set_option maxHeartbeats 4000000 in
set_option maxRecDepth 100000 in
theorem g_X5_init {D : va_G} {T : Nat → ClassId} {h0 : Nat} (l : Launch) {μ : ME} (b : Nat) (hb0 : μ (b) = .inr (5, [.int (nI 0), .null, .null, .null, .int (nI 0), .null, .int (nI 0), .null, .null, .int (nI 0), .int (nI 0), .null, .int (nI 0), .null, .null, .null, .long 0, .null, .null])) : GT D T h0 l yX5_init cX5_init 1 1 20 (b + 1) 12 684 [.ref (h0 + b)] μ (fun μ1 => (∀ i, i < b → μ1 i = μ i) ∧ μ1 b = .inr (5, [.int (nI 0), .ref (h0 + (b + 1)), .ref (h0 + (b + 2)), .ref (h0 + (b + 3)), .int (nI 0), .ref (h0 + (b + 4)), .int (nI 0), .ref (h0 + (b + 5)), .ref (h0 + (b + 6)), .int (nI 0), .int (nI 0), .ref (h0 + (b + 7)), .int (nI 0), .ref (h0 + (b + 8)), .ref (h0 + (b + 9)), .ref (h0 + (b + 10)), .long 0, .ref (h0 + (b + 11)), .ref (h0 + (b + 12))]) ∧ μ1 (b + 1) = .inl (T 0, 6, .inl (fun _ => nI 0)) ∧ μ1 (b + 2) = .inl (T 0, 62, .inl (fun _ => nI 0)) ∧ μ1 (b + 3) = .inl (T 0, 24, .inl (fun _ => nI 0)) ∧ μ1 (b + 4) = .inl (T 0, 64, .inl (fun _ => nI 0)) ∧ μ1 (b + 5) = .inl (T 0, 6, .inl (fun _ => nI 0)) ∧ μ1 (b + 6) = .inl (T 0, 6, .inl (fun _ => nI 0)) ∧ μ1 (b + 7) = .inl (T 0, 434, .inl (fun _ => nI 0)) ∧ μ1 (b + 8) = .inl (T 0, 6, .inl (fun _ => nI 0)) ∧ μ1 (b + 9) = .inl (T 0, 6, .inl (fun _ => nI 0)) ∧ μ1 (b + 10) = .inl (T 0, 6, .inl (fun _ => nI 0)) ∧ μ1 (b + 11) = .inl (T 2, 2, .inl (fun _ => nI 0)) ∧ μ1 (b + 12) = .inl (T 0, 62, .inl (fun _ => nI 0))) := by
  refine gt_of (by decide) rfl (Nat.le_of_ble_eq_true rfl) ?_
  intro p e s m below meth c ls F hin hr hlk hW hl
  have hsz := hW.2.2.1
  have hx := F.1.1
  have hb := F.1.2.1
  have hl : lv_has ls 1 [(0, .ref (h0 + b))] := hl
  refine lv_aload_n hx hb dX5_init_0 rfl (lv_at hl 0 rfl) ?_
  refine gn_obj F hl.1 tw_628 (Nat.le_of_ble_eq_true rfl) (Nat.le_of_ble_eq_true rfl) (Nat.le_of_ble_eq_true rfl) dX5_init_1 ?_
  refine lv_aload_n hx hb dX5_init_4 rfl (lv_at hl 0 rfl) ?_
  refine lv_bipush (v := nI 6) hx hb dX5_init_5 (by decide) ?_
  refine gn_newa (t := 0) (atype := .int) (ty := .int) F hW rfl tw_109 rfl (fun q => q) rfl (Nat.le_of_ble_eq_true rfl) (by decide) (Nat.le_of_ble_eq_true rfl) (Nat.le_of_ble_eq_true rfl) dX5_init_7 (fun H hW => ?_)
  obtain ⟨locs, elocs⟩ : ∃ z9 : List Loc, z9 = [] := ⟨_, rfl⟩
  rw [← elocs] at hW ⊢
  obtain ⟨μ1, eμ1⟩ : ∃ z9 : ME, z9 = va_up μ (b + 1) (.inl (T 0, 6, .inl (fun _ => nI 0))) := ⟨_, rfl⟩
  have hW : GS D T h0 s (b + 2) μ1 H locs := by rw [eμ1]; exact hW
  have fb_1 : μ1 (b) = .inr (5, [.int (nI 0), .null, .null, .null, .int (nI 0), .null, .int (nI 0), .null, .null, .int (nI 0), .int (nI 0), .null, .int (nI 0), .null, .null, .null, .long 0, .null, .null]) := (congrFun eμ1 _).trans ((va_up_ne _ _ (by omega)).trans hb0)
  have fb_1_1 : μ1 (b + 1) = .inl (T 0, 6, .inl (fun _ => nI 0)) := by rw [eμ1, va_up_self]
  refine gn_put (i := b) F hin hW (by omega) (by omega) fb_1 rfl iX5 tyX5 tyX5_ok nmX5 1 (by decide) tw_630 rfl rfl rfl rfl (Nat.le_of_ble_eq_true rfl) dX5_init_9 (fun H locs hW => ?_)
  obtain ⟨μ2, eμ2⟩ : ∃ z9 : ME, z9 = va_up μ1 (b) (.inr (5, [.int (nI 0), .ref (h0 + (b + 1)), .null, .null, .int (nI 0), .null, .int (nI 0), .null, .null, .int (nI 0), .int (nI 0), .null, .int (nI 0), .null, .null, .null, .long 0, .null, .null])) := ⟨_, rfl⟩
  have hW : GS D T h0 s (b + 2) μ2 H locs := by rw [eμ2]; exact hW
  have fb_1_2 : μ2 (b + 1) = .inl (T 0, 6, .inl (fun _ => nI 0)) := (congrFun eμ2 _).trans ((va_up_ne _ _ (by omega)).trans fb_1_1)
  have fb_2 : μ2 (b) = .inr (5, [.int (nI 0), .ref (h0 + (b + 1)), .null, .null, .int (nI 0), .null, .int (nI 0), .null, .null, .int (nI 0), .int (nI 0), .null, .int (nI 0), .null, .null, .null, .long 0, .null, .null]) := by rw [eμ2, va_up_self]
  refine lv_aload_n hx hb dX5_init_12 rfl (lv_at hl 0 rfl) ?_
  refine lv_bipush (v := nI 62) hx hb dX5_init_13 (by decide) ?_
  refine gn_newa (t := 0) (atype := .int) (ty := .int) F hW rfl tw_109 rfl (fun q => q) rfl (Nat.le_of_ble_eq_true rfl) (by decide) (Nat.le_of_ble_eq_true rfl) (Nat.le_of_ble_eq_true rfl) dX5_init_15 (fun H hW => ?_)
  obtain ⟨μ3, eμ3⟩ : ∃ z9 : ME, z9 = va_up μ2 (b + 2) (.inl (T 0, 62, .inl (fun _ => nI 0))) := ⟨_, rfl⟩
  have hW : GS D T h0 s (b + 3) μ3 H locs := by rw [eμ3]; exact hW
  have fb_1_3 : μ3 (b + 1) = .inl (T 0, 6, .inl (fun _ => nI 0)) := (congrFun eμ3 _).trans ((va_up_ne _ _ (by omega)).trans fb_1_2)
  have fb_3 : μ3 (b) = .inr (5, [.int (nI 0), .ref (h0 + (b + 1)), .null, .null, .int (nI 0), .null, .int (nI 0), .null, .null, .int (nI 0), .int (nI 0), .null, .int (nI 0), .null, .null, .null, .long 0, .null, .null]) := (congrFun eμ3 _).trans ((va_up_ne _ _ (by omega)).trans fb_2)
  have fb_2_3 : μ3 (b + 2) = .inl (T 0, 62, .inl (fun _ => nI 0)) := by rw [eμ3, va_up_self]
  refine gn_put (i := b) F hin hW (by omega) (by omega) fb_3 rfl iX5 tyX5 tyX5_ok nmX5 2 (by decide) tw_631 rfl rfl rfl rfl (Nat.le_of_ble_eq_true rfl) dX5_init_17 (fun H locs hW => ?_)
  obtain ⟨μ4, eμ4⟩ : ∃ z9 : ME, z9 = va_up μ3 (b) (.inr (5, [.int (nI 0), .ref (h0 + (b + 1)), .ref (h0 + (b + 2)), .null, .int (nI 0), .null, .int (nI 0), .null, .null, .int (nI 0), .int (nI 0), .null, .int (nI 0), .null, .null, .null, .long 0, .null, .null])) := ⟨_, rfl⟩
  have hW : GS D T h0 s (b + 3) μ4 H locs := by rw [eμ4]; exact hW
  have fb_1_4 : μ4 (b + 1) = .inl (T 0, 6, .inl (fun _ => nI 0)) := (congrFun eμ4 _).trans ((va_up_ne _ _ (by omega)).trans fb_1_3)
  have fb_2_4 : μ4 (b + 2) = .inl (T 0, 62, .inl (fun _ => nI 0)) := (congrFun eμ4 _).trans ((va_up_ne _ _ (by omega)).trans fb_2_3)
  have fb_4 : μ4 (b) = .inr (5, [.int (nI 0), .ref (h0 + (b + 1)), .ref (h0 + (b + 2)), .null, .int (nI 0), .null, .int (nI 0), .null, .null, .int (nI 0), .int (nI 0), .null, .int (nI 0), .null, .null, .null, .long 0, .null, .null]) := by rw [eμ4, va_up_self]
  refine lv_aload_n hx hb dX5_init_20 rfl (lv_at hl 0 rfl) ?_
  refine lv_bipush (v := nI 24) hx hb dX5_init_21 (by decide) ?_
  refine gn_newa (t := 0) (atype := .int) (ty := .int) F hW rfl tw_109 rfl (fun q => q) rfl (Nat.le_of_ble_eq_true rfl) (by decide) (Nat.le_of_ble_eq_true rfl) (Nat.le_of_ble_eq_true rfl) dX5_init_23 (fun H hW => ?_)
  obtain ⟨μ5, eμ5⟩ : ∃ z9 : ME, z9 = va_up μ4 (b + 3) (.inl (T 0, 24, .inl (fun _ => nI 0))) := ⟨_, rfl⟩
  have hW : GS D T h0 s (b + 4) μ5 H locs := by rw [eμ5]; exact hW
  have fb_1_5 : μ5 (b + 1) = .inl (T 0, 6, .inl (fun _ => nI 0)) := (congrFun eμ5 _).trans ((va_up_ne _ _ (by omega)).trans fb_1_4)
  have fb_2_5 : μ5 (b + 2) = .inl (T 0, 62, .inl (fun _ => nI 0)) := (congrFun eμ5 _).trans ((va_up_ne _ _ (by omega)).trans fb_2_4)
  have fb_5 : μ5 (b) = .inr (5, [.int (nI 0), .ref (h0 + (b + 1)), .ref (h0 + (b + 2)), .null, .int (nI 0), .null, .int (nI 0), .null, .null, .int (nI 0), .int (nI 0), .null, .int (nI 0), .null, .null, .null, .long 0, .null, .null]) := (congrFun eμ5 _).trans ((va_up_ne _ _ (by omega)).trans fb_4)
  have fb_3_5 : μ5 (b + 3) = .inl (T 0, 24, .inl (fun _ => nI 0)) := by rw [eμ5, va_up_self]
  refine gn_put (i := b) F hin hW (by omega) (by omega) fb_5 rfl iX5 tyX5 tyX5_ok nmX5 3 (by decide) tw_632 rfl rfl rfl rfl (Nat.le_of_ble_eq_true rfl) dX5_init_25 (fun H locs hW => ?_)
  obtain ⟨μ6, eμ6⟩ : ∃ z9 : ME, z9 = va_up μ5 (b) (.inr (5, [.int (nI 0), .ref (h0 + (b + 1)), .ref (h0 + (b + 2)), .ref (h0 + (b + 3)), .int (nI 0), .null, .int (nI 0), .null, .null, .int (nI 0), .int (nI 0), .null, .int (nI 0), .null, .null, .null, .long 0, .null, .null])) := ⟨_, rfl⟩
  have hW : GS D T h0 s (b + 4) μ6 H locs := by rw [eμ6]; exact hW
  have fb_1_6 : μ6 (b + 1) = .inl (T 0, 6, .inl (fun _ => nI 0)) := (congrFun eμ6 _).trans ((va_up_ne _ _ (by omega)).trans fb_1_5)
  have fb_2_6 : μ6 (b + 2) = .inl (T 0, 62, .inl (fun _ => nI 0)) := (congrFun eμ6 _).trans ((va_up_ne _ _ (by omega)).trans fb_2_5)
  have fb_3_6 : μ6 (b + 3) = .inl (T 0, 24, .inl (fun _ => nI 0)) := (congrFun eμ6 _).trans ((va_up_ne _ _ (by omega)).trans fb_3_5)
  have fb_6 : μ6 (b) = .inr (5, [.int (nI 0), .ref (h0 + (b + 1)), .ref (h0 + (b + 2)), .ref (h0 + (b + 3)), .int (nI 0), .null, .int (nI 0), .null, .null, .int (nI 0), .int (nI 0), .null, .int (nI 0), .null, .null, .null, .long 0, .null, .null]) := by rw [eμ6, va_up_self]
  refine lv_aload_n hx hb dX5_init_28 rfl (lv_at hl 0 rfl) ?_
  refine lv_bipush (v := nI 64) hx hb dX5_init_29 (by decide) ?_
  refine gn_newa (t := 0) (atype := .int) (ty := .int) F hW rfl tw_109 rfl (fun q => q) rfl (Nat.le_of_ble_eq_true rfl) (by decide) (Nat.le_of_ble_eq_true rfl) (Nat.le_of_ble_eq_true rfl) dX5_init_31 (fun H hW => ?_)
  obtain ⟨μ7, eμ7⟩ : ∃ z9 : ME, z9 = va_up μ6 (b + 4) (.inl (T 0, 64, .inl (fun _ => nI 0))) := ⟨_, rfl⟩
  have hW : GS D T h0 s (b + 5) μ7 H locs := by rw [eμ7]; exact hW
  have fb_1_7 : μ7 (b + 1) = .inl (T 0, 6, .inl (fun _ => nI 0)) := (congrFun eμ7 _).trans ((va_up_ne _ _ (by omega)).trans fb_1_6)
  have fb_2_7 : μ7 (b + 2) = .inl (T 0, 62, .inl (fun _ => nI 0)) := (congrFun eμ7 _).trans ((va_up_ne _ _ (by omega)).trans fb_2_6)
  have fb_3_7 : μ7 (b + 3) = .inl (T 0, 24, .inl (fun _ => nI 0)) := (congrFun eμ7 _).trans ((va_up_ne _ _ (by omega)).trans fb_3_6)
  have fb_7 : μ7 (b) = .inr (5, [.int (nI 0), .ref (h0 + (b + 1)), .ref (h0 + (b + 2)), .ref (h0 + (b + 3)), .int (nI 0), .null, .int (nI 0), .null, .null, .int (nI 0), .int (nI 0), .null, .int (nI 0), .null, .null, .null, .long 0, .null, .null]) := (congrFun eμ7 _).trans ((va_up_ne _ _ (by omega)).trans fb_6)
  have fb_4_7 : μ7 (b + 4) = .inl (T 0, 64, .inl (fun _ => nI 0)) := by rw [eμ7, va_up_self]
  refine gn_put (i := b) F hin hW (by omega) (by omega) fb_7 rfl iX5 tyX5 tyX5_ok nmX5 5 (by decide) tw_634 rfl rfl rfl rfl (Nat.le_of_ble_eq_true rfl) dX5_init_33 (fun H locs hW => ?_)
  obtain ⟨μ8, eμ8⟩ : ∃ z9 : ME, z9 = va_up μ7 (b) (.inr (5, [.int (nI 0), .ref (h0 + (b + 1)), .ref (h0 + (b + 2)), .ref (h0 + (b + 3)), .int (nI 0), .ref (h0 + (b + 4)), .int (nI 0), .null, .null, .int (nI 0), .int (nI 0), .null, .int (nI 0), .null, .null, .null, .long 0, .null, .null])) := ⟨_, rfl⟩
  have hW : GS D T h0 s (b + 5) μ8 H locs := by rw [eμ8]; exact hW
  have fb_1_8 : μ8 (b + 1) = .inl (T 0, 6, .inl (fun _ => nI 0)) := (congrFun eμ8 _).trans ((va_up_ne _ _ (by omega)).trans fb_1_7)
  have fb_2_8 : μ8 (b + 2) = .inl (T 0, 62, .inl (fun _ => nI 0)) := (congrFun eμ8 _).trans ((va_up_ne _ _ (by omega)).trans fb_2_7)
  have fb_3_8 : μ8 (b + 3) = .inl (T 0, 24, .inl (fun _ => nI 0)) := (congrFun eμ8 _).trans ((va_up_ne _ _ (by omega)).trans fb_3_7)
  have fb_4_8 : μ8 (b + 4) = .inl (T 0, 64, .inl (fun _ => nI 0)) := (congrFun eμ8 _).trans ((va_up_ne _ _ (by omega)).trans fb_4_7)
  have fb_8 : μ8 (b) = .inr (5, [.int (nI 0), .ref (h0 + (b + 1)), .ref (h0 + (b + 2)), .ref (h0 + (b + 3)), .int (nI 0), .ref (h0 + (b + 4)), .int (nI 0), .null, .null, .int (nI 0), .int (nI 0), .null, .int (nI 0), .null, .null, .null, .long 0, .null, .null]) := by rw [eμ8, va_up_self]
  refine lv_aload_n hx hb dX5_init_36 rfl (lv_at hl 0 rfl) ?_
  refine lv_bipush (v := nI 6) hx hb dX5_init_37 (by decide) ?_
  refine gn_newa (t := 0) (atype := .int) (ty := .int) F hW rfl tw_109 rfl (fun q => q) rfl (Nat.le_of_ble_eq_true rfl) (by decide) (Nat.le_of_ble_eq_true rfl) (Nat.le_of_ble_eq_true rfl) dX5_init_39 (fun H hW => ?_)
  obtain ⟨μ9, eμ9⟩ : ∃ z9 : ME, z9 = va_up μ8 (b + 5) (.inl (T 0, 6, .inl (fun _ => nI 0))) := ⟨_, rfl⟩
  have hW : GS D T h0 s (b + 6) μ9 H locs := by rw [eμ9]; exact hW
  have fb_1_9 : μ9 (b + 1) = .inl (T 0, 6, .inl (fun _ => nI 0)) := (congrFun eμ9 _).trans ((va_up_ne _ _ (by omega)).trans fb_1_8)
  have fb_2_9 : μ9 (b + 2) = .inl (T 0, 62, .inl (fun _ => nI 0)) := (congrFun eμ9 _).trans ((va_up_ne _ _ (by omega)).trans fb_2_8)
  have fb_3_9 : μ9 (b + 3) = .inl (T 0, 24, .inl (fun _ => nI 0)) := (congrFun eμ9 _).trans ((va_up_ne _ _ (by omega)).trans fb_3_8)
  have fb_4_9 : μ9 (b + 4) = .inl (T 0, 64, .inl (fun _ => nI 0)) := (congrFun eμ9 _).trans ((va_up_ne _ _ (by omega)).trans fb_4_8)
  have fb_9 : μ9 (b) = .inr (5, [.int (nI 0), .ref (h0 + (b + 1)), .ref (h0 + (b + 2)), .ref (h0 + (b + 3)), .int (nI 0), .ref (h0 + (b + 4)), .int (nI 0), .null, .null, .int (nI 0), .int (nI 0), .null, .int (nI 0), .null, .null, .null, .long 0, .null, .null]) := (congrFun eμ9 _).trans ((va_up_ne _ _ (by omega)).trans fb_8)
  have fb_5_9 : μ9 (b + 5) = .inl (T 0, 6, .inl (fun _ => nI 0)) := by rw [eμ9, va_up_self]
  refine gn_put (i := b) F hin hW (by omega) (by omega) fb_9 rfl iX5 tyX5 tyX5_ok nmX5 7 (by decide) tw_636 rfl rfl rfl rfl (Nat.le_of_ble_eq_true rfl) dX5_init_41 (fun H locs hW => ?_)
  obtain ⟨μ10, eμ10⟩ : ∃ z9 : ME, z9 = va_up μ9 (b) (.inr (5, [.int (nI 0), .ref (h0 + (b + 1)), .ref (h0 + (b + 2)), .ref (h0 + (b + 3)), .int (nI 0), .ref (h0 + (b + 4)), .int (nI 0), .ref (h0 + (b + 5)), .null, .int (nI 0), .int (nI 0), .null, .int (nI 0), .null, .null, .null, .long 0, .null, .null])) := ⟨_, rfl⟩
  have hW : GS D T h0 s (b + 6) μ10 H locs := by rw [eμ10]; exact hW
  have fb_1_10 : μ10 (b + 1) = .inl (T 0, 6, .inl (fun _ => nI 0)) := (congrFun eμ10 _).trans ((va_up_ne _ _ (by omega)).trans fb_1_9)
  have fb_2_10 : μ10 (b + 2) = .inl (T 0, 62, .inl (fun _ => nI 0)) := (congrFun eμ10 _).trans ((va_up_ne _ _ (by omega)).trans fb_2_9)
  have fb_3_10 : μ10 (b + 3) = .inl (T 0, 24, .inl (fun _ => nI 0)) := (congrFun eμ10 _).trans ((va_up_ne _ _ (by omega)).trans fb_3_9)
  have fb_4_10 : μ10 (b + 4) = .inl (T 0, 64, .inl (fun _ => nI 0)) := (congrFun eμ10 _).trans ((va_up_ne _ _ (by omega)).trans fb_4_9)
  have fb_5_10 : μ10 (b + 5) = .inl (T 0, 6, .inl (fun _ => nI 0)) := (congrFun eμ10 _).trans ((va_up_ne _ _ (by omega)).trans fb_5_9)
  have fb_10 : μ10 (b) = .inr (5, [.int (nI 0), .ref (h0 + (b + 1)), .ref (h0 + (b + 2)), .ref (h0 + (b + 3)), .int (nI 0), .ref (h0 + (b + 4)), .int (nI 0), .ref (h0 + (b + 5)), .null, .int (nI 0), .int (nI 0), .null, .int (nI 0), .null, .null, .null, .long 0, .null, .null]) := by rw [eμ10, va_up_self]
  refine lv_aload_n hx hb dX5_init_44 rfl (lv_at hl 0 rfl) ?_
  refine lv_bipush (v := nI 6) hx hb dX5_init_45 (by decide) ?_
  refine gn_newa (t := 0) (atype := .int) (ty := .int) F hW rfl tw_109 rfl (fun q => q) rfl (Nat.le_of_ble_eq_true rfl) (by decide) (Nat.le_of_ble_eq_true rfl) (Nat.le_of_ble_eq_true rfl) dX5_init_47 (fun H hW => ?_)
  obtain ⟨μ11, eμ11⟩ : ∃ z9 : ME, z9 = va_up μ10 (b + 6) (.inl (T 0, 6, .inl (fun _ => nI 0))) := ⟨_, rfl⟩
  have hW : GS D T h0 s (b + 7) μ11 H locs := by rw [eμ11]; exact hW
  have fb_1_11 : μ11 (b + 1) = .inl (T 0, 6, .inl (fun _ => nI 0)) := (congrFun eμ11 _).trans ((va_up_ne _ _ (by omega)).trans fb_1_10)
  have fb_2_11 : μ11 (b + 2) = .inl (T 0, 62, .inl (fun _ => nI 0)) := (congrFun eμ11 _).trans ((va_up_ne _ _ (by omega)).trans fb_2_10)
  have fb_3_11 : μ11 (b + 3) = .inl (T 0, 24, .inl (fun _ => nI 0)) := (congrFun eμ11 _).trans ((va_up_ne _ _ (by omega)).trans fb_3_10)
  have fb_4_11 : μ11 (b + 4) = .inl (T 0, 64, .inl (fun _ => nI 0)) := (congrFun eμ11 _).trans ((va_up_ne _ _ (by omega)).trans fb_4_10)
  have fb_5_11 : μ11 (b + 5) = .inl (T 0, 6, .inl (fun _ => nI 0)) := (congrFun eμ11 _).trans ((va_up_ne _ _ (by omega)).trans fb_5_10)
  have fb_11 : μ11 (b) = .inr (5, [.int (nI 0), .ref (h0 + (b + 1)), .ref (h0 + (b + 2)), .ref (h0 + (b + 3)), .int (nI 0), .ref (h0 + (b + 4)), .int (nI 0), .ref (h0 + (b + 5)), .null, .int (nI 0), .int (nI 0), .null, .int (nI 0), .null, .null, .null, .long 0, .null, .null]) := (congrFun eμ11 _).trans ((va_up_ne _ _ (by omega)).trans fb_10)
  have fb_6_11 : μ11 (b + 6) = .inl (T 0, 6, .inl (fun _ => nI 0)) := by rw [eμ11, va_up_self]
  refine gn_put (i := b) F hin hW (by omega) (by omega) fb_11 rfl iX5 tyX5 tyX5_ok nmX5 8 (by decide) tw_637 rfl rfl rfl rfl (Nat.le_of_ble_eq_true rfl) dX5_init_49 (fun H locs hW => ?_)
  obtain ⟨μ12, eμ12⟩ : ∃ z9 : ME, z9 = va_up μ11 (b) (.inr (5, [.int (nI 0), .ref (h0 + (b + 1)), .ref (h0 + (b + 2)), .ref (h0 + (b + 3)), .int (nI 0), .ref (h0 + (b + 4)), .int (nI 0), .ref (h0 + (b + 5)), .ref (h0 + (b + 6)), .int (nI 0), .int (nI 0), .null, .int (nI 0), .null, .null, .null, .long 0, .null, .null])) := ⟨_, rfl⟩
  have hW : GS D T h0 s (b + 7) μ12 H locs := by rw [eμ12]; exact hW
  have fb_1_12 : μ12 (b + 1) = .inl (T 0, 6, .inl (fun _ => nI 0)) := (congrFun eμ12 _).trans ((va_up_ne _ _ (by omega)).trans fb_1_11)
  have fb_2_12 : μ12 (b + 2) = .inl (T 0, 62, .inl (fun _ => nI 0)) := (congrFun eμ12 _).trans ((va_up_ne _ _ (by omega)).trans fb_2_11)
  have fb_3_12 : μ12 (b + 3) = .inl (T 0, 24, .inl (fun _ => nI 0)) := (congrFun eμ12 _).trans ((va_up_ne _ _ (by omega)).trans fb_3_11)
  have fb_4_12 : μ12 (b + 4) = .inl (T 0, 64, .inl (fun _ => nI 0)) := (congrFun eμ12 _).trans ((va_up_ne _ _ (by omega)).trans fb_4_11)
  have fb_5_12 : μ12 (b + 5) = .inl (T 0, 6, .inl (fun _ => nI 0)) := (congrFun eμ12 _).trans ((va_up_ne _ _ (by omega)).trans fb_5_11)
  have fb_6_12 : μ12 (b + 6) = .inl (T 0, 6, .inl (fun _ => nI 0)) := (congrFun eμ12 _).trans ((va_up_ne _ _ (by omega)).trans fb_6_11)
  have fb_12 : μ12 (b) = .inr (5, [.int (nI 0), .ref (h0 + (b + 1)), .ref (h0 + (b + 2)), .ref (h0 + (b + 3)), .int (nI 0), .ref (h0 + (b + 4)), .int (nI 0), .ref (h0 + (b + 5)), .ref (h0 + (b + 6)), .int (nI 0), .int (nI 0), .null, .int (nI 0), .null, .null, .null, .long 0, .null, .null]) := by rw [eμ12, va_up_self]
  refine lv_aload_n hx hb dX5_init_52 rfl (lv_at hl 0 rfl) ?_
  refine lv_sipush (v := nI 434) hx hb dX5_init_53 (by decide) ?_
  refine gn_newa (t := 0) (atype := .int) (ty := .int) F hW rfl tw_109 rfl (fun q => q) rfl (Nat.le_of_ble_eq_true rfl) (by decide) (Nat.le_of_ble_eq_true rfl) (Nat.le_of_ble_eq_true rfl) dX5_init_56 (fun H hW => ?_)
  obtain ⟨μ13, eμ13⟩ : ∃ z9 : ME, z9 = va_up μ12 (b + 7) (.inl (T 0, 434, .inl (fun _ => nI 0))) := ⟨_, rfl⟩
  have hW : GS D T h0 s (b + 8) μ13 H locs := by rw [eμ13]; exact hW
  have fb_1_13 : μ13 (b + 1) = .inl (T 0, 6, .inl (fun _ => nI 0)) := (congrFun eμ13 _).trans ((va_up_ne _ _ (by omega)).trans fb_1_12)
  have fb_2_13 : μ13 (b + 2) = .inl (T 0, 62, .inl (fun _ => nI 0)) := (congrFun eμ13 _).trans ((va_up_ne _ _ (by omega)).trans fb_2_12)
  have fb_3_13 : μ13 (b + 3) = .inl (T 0, 24, .inl (fun _ => nI 0)) := (congrFun eμ13 _).trans ((va_up_ne _ _ (by omega)).trans fb_3_12)
  have fb_4_13 : μ13 (b + 4) = .inl (T 0, 64, .inl (fun _ => nI 0)) := (congrFun eμ13 _).trans ((va_up_ne _ _ (by omega)).trans fb_4_12)
  have fb_5_13 : μ13 (b + 5) = .inl (T 0, 6, .inl (fun _ => nI 0)) := (congrFun eμ13 _).trans ((va_up_ne _ _ (by omega)).trans fb_5_12)
  have fb_6_13 : μ13 (b + 6) = .inl (T 0, 6, .inl (fun _ => nI 0)) := (congrFun eμ13 _).trans ((va_up_ne _ _ (by omega)).trans fb_6_12)
  have fb_13 : μ13 (b) = .inr (5, [.int (nI 0), .ref (h0 + (b + 1)), .ref (h0 + (b + 2)), .ref (h0 + (b + 3)), .int (nI 0), .ref (h0 + (b + 4)), .int (nI 0), .ref (h0 + (b + 5)), .ref (h0 + (b + 6)), .int (nI 0), .int (nI 0), .null, .int (nI 0), .null, .null, .null, .long 0, .null, .null]) := (congrFun eμ13 _).trans ((va_up_ne _ _ (by omega)).trans fb_12)
  have fb_7_13 : μ13 (b + 7) = .inl (T 0, 434, .inl (fun _ => nI 0)) := by rw [eμ13, va_up_self]
  refine gn_put (i := b) F hin hW (by omega) (by omega) fb_13 rfl iX5 tyX5 tyX5_ok nmX5 11 (by decide) tw_640 rfl rfl rfl rfl (Nat.le_of_ble_eq_true rfl) dX5_init_58 (fun H locs hW => ?_)
  obtain ⟨μ14, eμ14⟩ : ∃ z9 : ME, z9 = va_up μ13 (b) (.inr (5, [.int (nI 0), .ref (h0 + (b + 1)), .ref (h0 + (b + 2)), .ref (h0 + (b + 3)), .int (nI 0), .ref (h0 + (b + 4)), .int (nI 0), .ref (h0 + (b + 5)), .ref (h0 + (b + 6)), .int (nI 0), .int (nI 0), .ref (h0 + (b + 7)), .int (nI 0), .null, .null, .null, .long 0, .null, .null])) := ⟨_, rfl⟩
  have hW : GS D T h0 s (b + 8) μ14 H locs := by rw [eμ14]; exact hW
  have fb_1_14 : μ14 (b + 1) = .inl (T 0, 6, .inl (fun _ => nI 0)) := (congrFun eμ14 _).trans ((va_up_ne _ _ (by omega)).trans fb_1_13)
  have fb_2_14 : μ14 (b + 2) = .inl (T 0, 62, .inl (fun _ => nI 0)) := (congrFun eμ14 _).trans ((va_up_ne _ _ (by omega)).trans fb_2_13)
  have fb_3_14 : μ14 (b + 3) = .inl (T 0, 24, .inl (fun _ => nI 0)) := (congrFun eμ14 _).trans ((va_up_ne _ _ (by omega)).trans fb_3_13)
  have fb_4_14 : μ14 (b + 4) = .inl (T 0, 64, .inl (fun _ => nI 0)) := (congrFun eμ14 _).trans ((va_up_ne _ _ (by omega)).trans fb_4_13)
  have fb_5_14 : μ14 (b + 5) = .inl (T 0, 6, .inl (fun _ => nI 0)) := (congrFun eμ14 _).trans ((va_up_ne _ _ (by omega)).trans fb_5_13)
  have fb_6_14 : μ14 (b + 6) = .inl (T 0, 6, .inl (fun _ => nI 0)) := (congrFun eμ14 _).trans ((va_up_ne _ _ (by omega)).trans fb_6_13)
  have fb_7_14 : μ14 (b + 7) = .inl (T 0, 434, .inl (fun _ => nI 0)) := (congrFun eμ14 _).trans ((va_up_ne _ _ (by omega)).trans fb_7_13)
  have fb_14 : μ14 (b) = .inr (5, [.int (nI 0), .ref (h0 + (b + 1)), .ref (h0 + (b + 2)), .ref (h0 + (b + 3)), .int (nI 0), .ref (h0 + (b + 4)), .int (nI 0), .ref (h0 + (b + 5)), .ref (h0 + (b + 6)), .int (nI 0), .int (nI 0), .ref (h0 + (b + 7)), .int (nI 0), .null, .null, .null, .long 0, .null, .null]) := by rw [eμ14, va_up_self]
  refine lv_aload_n hx hb dX5_init_61 rfl (lv_at hl 0 rfl) ?_
  refine lv_bipush (v := nI 6) hx hb dX5_init_62 (by decide) ?_
  refine gn_newa (t := 0) (atype := .int) (ty := .int) F hW rfl tw_109 rfl (fun q => q) rfl (Nat.le_of_ble_eq_true rfl) (by decide) (Nat.le_of_ble_eq_true rfl) (Nat.le_of_ble_eq_true rfl) dX5_init_64 (fun H hW => ?_)
  obtain ⟨μ15, eμ15⟩ : ∃ z9 : ME, z9 = va_up μ14 (b + 8) (.inl (T 0, 6, .inl (fun _ => nI 0))) := ⟨_, rfl⟩
  have hW : GS D T h0 s (b + 9) μ15 H locs := by rw [eμ15]; exact hW
  have fb_1_15 : μ15 (b + 1) = .inl (T 0, 6, .inl (fun _ => nI 0)) := (congrFun eμ15 _).trans ((va_up_ne _ _ (by omega)).trans fb_1_14)
  have fb_2_15 : μ15 (b + 2) = .inl (T 0, 62, .inl (fun _ => nI 0)) := (congrFun eμ15 _).trans ((va_up_ne _ _ (by omega)).trans fb_2_14)
  have fb_3_15 : μ15 (b + 3) = .inl (T 0, 24, .inl (fun _ => nI 0)) := (congrFun eμ15 _).trans ((va_up_ne _ _ (by omega)).trans fb_3_14)
  have fb_4_15 : μ15 (b + 4) = .inl (T 0, 64, .inl (fun _ => nI 0)) := (congrFun eμ15 _).trans ((va_up_ne _ _ (by omega)).trans fb_4_14)
  have fb_5_15 : μ15 (b + 5) = .inl (T 0, 6, .inl (fun _ => nI 0)) := (congrFun eμ15 _).trans ((va_up_ne _ _ (by omega)).trans fb_5_14)
  have fb_6_15 : μ15 (b + 6) = .inl (T 0, 6, .inl (fun _ => nI 0)) := (congrFun eμ15 _).trans ((va_up_ne _ _ (by omega)).trans fb_6_14)
  have fb_7_15 : μ15 (b + 7) = .inl (T 0, 434, .inl (fun _ => nI 0)) := (congrFun eμ15 _).trans ((va_up_ne _ _ (by omega)).trans fb_7_14)
  have fb_15 : μ15 (b) = .inr (5, [.int (nI 0), .ref (h0 + (b + 1)), .ref (h0 + (b + 2)), .ref (h0 + (b + 3)), .int (nI 0), .ref (h0 + (b + 4)), .int (nI 0), .ref (h0 + (b + 5)), .ref (h0 + (b + 6)), .int (nI 0), .int (nI 0), .ref (h0 + (b + 7)), .int (nI 0), .null, .null, .null, .long 0, .null, .null]) := (congrFun eμ15 _).trans ((va_up_ne _ _ (by omega)).trans fb_14)
  have fb_8_15 : μ15 (b + 8) = .inl (T 0, 6, .inl (fun _ => nI 0)) := by rw [eμ15, va_up_self]
  refine gn_put (i := b) F hin hW (by omega) (by omega) fb_15 rfl iX5 tyX5 tyX5_ok nmX5 13 (by decide) tw_642 rfl rfl rfl rfl (Nat.le_of_ble_eq_true rfl) dX5_init_66 (fun H locs hW => ?_)
  obtain ⟨μ16, eμ16⟩ : ∃ z9 : ME, z9 = va_up μ15 (b) (.inr (5, [.int (nI 0), .ref (h0 + (b + 1)), .ref (h0 + (b + 2)), .ref (h0 + (b + 3)), .int (nI 0), .ref (h0 + (b + 4)), .int (nI 0), .ref (h0 + (b + 5)), .ref (h0 + (b + 6)), .int (nI 0), .int (nI 0), .ref (h0 + (b + 7)), .int (nI 0), .ref (h0 + (b + 8)), .null, .null, .long 0, .null, .null])) := ⟨_, rfl⟩
  have hW : GS D T h0 s (b + 9) μ16 H locs := by rw [eμ16]; exact hW
  have fb_1_16 : μ16 (b + 1) = .inl (T 0, 6, .inl (fun _ => nI 0)) := (congrFun eμ16 _).trans ((va_up_ne _ _ (by omega)).trans fb_1_15)
  have fb_2_16 : μ16 (b + 2) = .inl (T 0, 62, .inl (fun _ => nI 0)) := (congrFun eμ16 _).trans ((va_up_ne _ _ (by omega)).trans fb_2_15)
  have fb_3_16 : μ16 (b + 3) = .inl (T 0, 24, .inl (fun _ => nI 0)) := (congrFun eμ16 _).trans ((va_up_ne _ _ (by omega)).trans fb_3_15)
  have fb_4_16 : μ16 (b + 4) = .inl (T 0, 64, .inl (fun _ => nI 0)) := (congrFun eμ16 _).trans ((va_up_ne _ _ (by omega)).trans fb_4_15)
  have fb_5_16 : μ16 (b + 5) = .inl (T 0, 6, .inl (fun _ => nI 0)) := (congrFun eμ16 _).trans ((va_up_ne _ _ (by omega)).trans fb_5_15)
  have fb_6_16 : μ16 (b + 6) = .inl (T 0, 6, .inl (fun _ => nI 0)) := (congrFun eμ16 _).trans ((va_up_ne _ _ (by omega)).trans fb_6_15)
  have fb_7_16 : μ16 (b + 7) = .inl (T 0, 434, .inl (fun _ => nI 0)) := (congrFun eμ16 _).trans ((va_up_ne _ _ (by omega)).trans fb_7_15)
  have fb_8_16 : μ16 (b + 8) = .inl (T 0, 6, .inl (fun _ => nI 0)) := (congrFun eμ16 _).trans ((va_up_ne _ _ (by omega)).trans fb_8_15)
  have fb_16 : μ16 (b) = .inr (5, [.int (nI 0), .ref (h0 + (b + 1)), .ref (h0 + (b + 2)), .ref (h0 + (b + 3)), .int (nI 0), .ref (h0 + (b + 4)), .int (nI 0), .ref (h0 + (b + 5)), .ref (h0 + (b + 6)), .int (nI 0), .int (nI 0), .ref (h0 + (b + 7)), .int (nI 0), .ref (h0 + (b + 8)), .null, .null, .long 0, .null, .null]) := by rw [eμ16, va_up_self]
  refine lv_aload_n hx hb dX5_init_69 rfl (lv_at hl 0 rfl) ?_
  refine lv_bipush (v := nI 6) hx hb dX5_init_70 (by decide) ?_
  refine gn_newa (t := 0) (atype := .int) (ty := .int) F hW rfl tw_109 rfl (fun q => q) rfl (Nat.le_of_ble_eq_true rfl) (by decide) (Nat.le_of_ble_eq_true rfl) (Nat.le_of_ble_eq_true rfl) dX5_init_72 (fun H hW => ?_)
  obtain ⟨μ17, eμ17⟩ : ∃ z9 : ME, z9 = va_up μ16 (b + 9) (.inl (T 0, 6, .inl (fun _ => nI 0))) := ⟨_, rfl⟩
  have hW : GS D T h0 s (b + 10) μ17 H locs := by rw [eμ17]; exact hW
  have fb_1_17 : μ17 (b + 1) = .inl (T 0, 6, .inl (fun _ => nI 0)) := (congrFun eμ17 _).trans ((va_up_ne _ _ (by omega)).trans fb_1_16)
  have fb_2_17 : μ17 (b + 2) = .inl (T 0, 62, .inl (fun _ => nI 0)) := (congrFun eμ17 _).trans ((va_up_ne _ _ (by omega)).trans fb_2_16)
  have fb_3_17 : μ17 (b + 3) = .inl (T 0, 24, .inl (fun _ => nI 0)) := (congrFun eμ17 _).trans ((va_up_ne _ _ (by omega)).trans fb_3_16)
  have fb_4_17 : μ17 (b + 4) = .inl (T 0, 64, .inl (fun _ => nI 0)) := (congrFun eμ17 _).trans ((va_up_ne _ _ (by omega)).trans fb_4_16)
  have fb_5_17 : μ17 (b + 5) = .inl (T 0, 6, .inl (fun _ => nI 0)) := (congrFun eμ17 _).trans ((va_up_ne _ _ (by omega)).trans fb_5_16)
  have fb_6_17 : μ17 (b + 6) = .inl (T 0, 6, .inl (fun _ => nI 0)) := (congrFun eμ17 _).trans ((va_up_ne _ _ (by omega)).trans fb_6_16)
  have fb_7_17 : μ17 (b + 7) = .inl (T 0, 434, .inl (fun _ => nI 0)) := (congrFun eμ17 _).trans ((va_up_ne _ _ (by omega)).trans fb_7_16)
  have fb_8_17 : μ17 (b + 8) = .inl (T 0, 6, .inl (fun _ => nI 0)) := (congrFun eμ17 _).trans ((va_up_ne _ _ (by omega)).trans fb_8_16)
  have fb_17 : μ17 (b) = .inr (5, [.int (nI 0), .ref (h0 + (b + 1)), .ref (h0 + (b + 2)), .ref (h0 + (b + 3)), .int (nI 0), .ref (h0 + (b + 4)), .int (nI 0), .ref (h0 + (b + 5)), .ref (h0 + (b + 6)), .int (nI 0), .int (nI 0), .ref (h0 + (b + 7)), .int (nI 0), .ref (h0 + (b + 8)), .null, .null, .long 0, .null, .null]) := (congrFun eμ17 _).trans ((va_up_ne _ _ (by omega)).trans fb_16)
  have fb_9_17 : μ17 (b + 9) = .inl (T 0, 6, .inl (fun _ => nI 0)) := by rw [eμ17, va_up_self]
  refine gn_put (i := b) F hin hW (by omega) (by omega) fb_17 rfl iX5 tyX5 tyX5_ok nmX5 14 (by decide) tw_643 rfl rfl rfl rfl (Nat.le_of_ble_eq_true rfl) dX5_init_74 (fun H locs hW => ?_)
  obtain ⟨μ18, eμ18⟩ : ∃ z9 : ME, z9 = va_up μ17 (b) (.inr (5, [.int (nI 0), .ref (h0 + (b + 1)), .ref (h0 + (b + 2)), .ref (h0 + (b + 3)), .int (nI 0), .ref (h0 + (b + 4)), .int (nI 0), .ref (h0 + (b + 5)), .ref (h0 + (b + 6)), .int (nI 0), .int (nI 0), .ref (h0 + (b + 7)), .int (nI 0), .ref (h0 + (b + 8)), .ref (h0 + (b + 9)), .null, .long 0, .null, .null])) := ⟨_, rfl⟩
  have hW : GS D T h0 s (b + 10) μ18 H locs := by rw [eμ18]; exact hW
  have fb_1_18 : μ18 (b + 1) = .inl (T 0, 6, .inl (fun _ => nI 0)) := (congrFun eμ18 _).trans ((va_up_ne _ _ (by omega)).trans fb_1_17)
  have fb_2_18 : μ18 (b + 2) = .inl (T 0, 62, .inl (fun _ => nI 0)) := (congrFun eμ18 _).trans ((va_up_ne _ _ (by omega)).trans fb_2_17)
  have fb_3_18 : μ18 (b + 3) = .inl (T 0, 24, .inl (fun _ => nI 0)) := (congrFun eμ18 _).trans ((va_up_ne _ _ (by omega)).trans fb_3_17)
  have fb_4_18 : μ18 (b + 4) = .inl (T 0, 64, .inl (fun _ => nI 0)) := (congrFun eμ18 _).trans ((va_up_ne _ _ (by omega)).trans fb_4_17)
  have fb_5_18 : μ18 (b + 5) = .inl (T 0, 6, .inl (fun _ => nI 0)) := (congrFun eμ18 _).trans ((va_up_ne _ _ (by omega)).trans fb_5_17)
  have fb_6_18 : μ18 (b + 6) = .inl (T 0, 6, .inl (fun _ => nI 0)) := (congrFun eμ18 _).trans ((va_up_ne _ _ (by omega)).trans fb_6_17)
  have fb_7_18 : μ18 (b + 7) = .inl (T 0, 434, .inl (fun _ => nI 0)) := (congrFun eμ18 _).trans ((va_up_ne _ _ (by omega)).trans fb_7_17)
  have fb_8_18 : μ18 (b + 8) = .inl (T 0, 6, .inl (fun _ => nI 0)) := (congrFun eμ18 _).trans ((va_up_ne _ _ (by omega)).trans fb_8_17)
  have fb_9_18 : μ18 (b + 9) = .inl (T 0, 6, .inl (fun _ => nI 0)) := (congrFun eμ18 _).trans ((va_up_ne _ _ (by omega)).trans fb_9_17)
  have fb_18 : μ18 (b) = .inr (5, [.int (nI 0), .ref (h0 + (b + 1)), .ref (h0 + (b + 2)), .ref (h0 + (b + 3)), .int (nI 0), .ref (h0 + (b + 4)), .int (nI 0), .ref (h0 + (b + 5)), .ref (h0 + (b + 6)), .int (nI 0), .int (nI 0), .ref (h0 + (b + 7)), .int (nI 0), .ref (h0 + (b + 8)), .ref (h0 + (b + 9)), .null, .long 0, .null, .null]) := by rw [eμ18, va_up_self]
  refine lv_aload_n hx hb dX5_init_77 rfl (lv_at hl 0 rfl) ?_
  refine lv_bipush (v := nI 6) hx hb dX5_init_78 (by decide) ?_
  refine gn_newa (t := 0) (atype := .int) (ty := .int) F hW rfl tw_109 rfl (fun q => q) rfl (Nat.le_of_ble_eq_true rfl) (by decide) (Nat.le_of_ble_eq_true rfl) (Nat.le_of_ble_eq_true rfl) dX5_init_80 (fun H hW => ?_)
  obtain ⟨μ19, eμ19⟩ : ∃ z9 : ME, z9 = va_up μ18 (b + 10) (.inl (T 0, 6, .inl (fun _ => nI 0))) := ⟨_, rfl⟩
  have hW : GS D T h0 s (b + 11) μ19 H locs := by rw [eμ19]; exact hW
  have fb_1_19 : μ19 (b + 1) = .inl (T 0, 6, .inl (fun _ => nI 0)) := (congrFun eμ19 _).trans ((va_up_ne _ _ (by omega)).trans fb_1_18)
  have fb_2_19 : μ19 (b + 2) = .inl (T 0, 62, .inl (fun _ => nI 0)) := (congrFun eμ19 _).trans ((va_up_ne _ _ (by omega)).trans fb_2_18)
  have fb_3_19 : μ19 (b + 3) = .inl (T 0, 24, .inl (fun _ => nI 0)) := (congrFun eμ19 _).trans ((va_up_ne _ _ (by omega)).trans fb_3_18)
  have fb_4_19 : μ19 (b + 4) = .inl (T 0, 64, .inl (fun _ => nI 0)) := (congrFun eμ19 _).trans ((va_up_ne _ _ (by omega)).trans fb_4_18)
  have fb_5_19 : μ19 (b + 5) = .inl (T 0, 6, .inl (fun _ => nI 0)) := (congrFun eμ19 _).trans ((va_up_ne _ _ (by omega)).trans fb_5_18)
  have fb_6_19 : μ19 (b + 6) = .inl (T 0, 6, .inl (fun _ => nI 0)) := (congrFun eμ19 _).trans ((va_up_ne _ _ (by omega)).trans fb_6_18)
  have fb_7_19 : μ19 (b + 7) = .inl (T 0, 434, .inl (fun _ => nI 0)) := (congrFun eμ19 _).trans ((va_up_ne _ _ (by omega)).trans fb_7_18)
  have fb_8_19 : μ19 (b + 8) = .inl (T 0, 6, .inl (fun _ => nI 0)) := (congrFun eμ19 _).trans ((va_up_ne _ _ (by omega)).trans fb_8_18)
  have fb_9_19 : μ19 (b + 9) = .inl (T 0, 6, .inl (fun _ => nI 0)) := (congrFun eμ19 _).trans ((va_up_ne _ _ (by omega)).trans fb_9_18)
  have fb_19 : μ19 (b) = .inr (5, [.int (nI 0), .ref (h0 + (b + 1)), .ref (h0 + (b + 2)), .ref (h0 + (b + 3)), .int (nI 0), .ref (h0 + (b + 4)), .int (nI 0), .ref (h0 + (b + 5)), .ref (h0 + (b + 6)), .int (nI 0), .int (nI 0), .ref (h0 + (b + 7)), .int (nI 0), .ref (h0 + (b + 8)), .ref (h0 + (b + 9)), .null, .long 0, .null, .null]) := (congrFun eμ19 _).trans ((va_up_ne _ _ (by omega)).trans fb_18)
  have fb_10_19 : μ19 (b + 10) = .inl (T 0, 6, .inl (fun _ => nI 0)) := by rw [eμ19, va_up_self]
  refine gn_put (i := b) F hin hW (by omega) (by omega) fb_19 rfl iX5 tyX5 tyX5_ok nmX5 15 (by decide) tw_644 rfl rfl rfl rfl (Nat.le_of_ble_eq_true rfl) dX5_init_82 (fun H locs hW => ?_)
  obtain ⟨μ20, eμ20⟩ : ∃ z9 : ME, z9 = va_up μ19 (b) (.inr (5, [.int (nI 0), .ref (h0 + (b + 1)), .ref (h0 + (b + 2)), .ref (h0 + (b + 3)), .int (nI 0), .ref (h0 + (b + 4)), .int (nI 0), .ref (h0 + (b + 5)), .ref (h0 + (b + 6)), .int (nI 0), .int (nI 0), .ref (h0 + (b + 7)), .int (nI 0), .ref (h0 + (b + 8)), .ref (h0 + (b + 9)), .ref (h0 + (b + 10)), .long 0, .null, .null])) := ⟨_, rfl⟩
  have hW : GS D T h0 s (b + 11) μ20 H locs := by rw [eμ20]; exact hW
  have fb_1_20 : μ20 (b + 1) = .inl (T 0, 6, .inl (fun _ => nI 0)) := (congrFun eμ20 _).trans ((va_up_ne _ _ (by omega)).trans fb_1_19)
  have fb_2_20 : μ20 (b + 2) = .inl (T 0, 62, .inl (fun _ => nI 0)) := (congrFun eμ20 _).trans ((va_up_ne _ _ (by omega)).trans fb_2_19)
  have fb_3_20 : μ20 (b + 3) = .inl (T 0, 24, .inl (fun _ => nI 0)) := (congrFun eμ20 _).trans ((va_up_ne _ _ (by omega)).trans fb_3_19)
  have fb_4_20 : μ20 (b + 4) = .inl (T 0, 64, .inl (fun _ => nI 0)) := (congrFun eμ20 _).trans ((va_up_ne _ _ (by omega)).trans fb_4_19)
  have fb_5_20 : μ20 (b + 5) = .inl (T 0, 6, .inl (fun _ => nI 0)) := (congrFun eμ20 _).trans ((va_up_ne _ _ (by omega)).trans fb_5_19)
  have fb_6_20 : μ20 (b + 6) = .inl (T 0, 6, .inl (fun _ => nI 0)) := (congrFun eμ20 _).trans ((va_up_ne _ _ (by omega)).trans fb_6_19)
  have fb_7_20 : μ20 (b + 7) = .inl (T 0, 434, .inl (fun _ => nI 0)) := (congrFun eμ20 _).trans ((va_up_ne _ _ (by omega)).trans fb_7_19)
  have fb_8_20 : μ20 (b + 8) = .inl (T 0, 6, .inl (fun _ => nI 0)) := (congrFun eμ20 _).trans ((va_up_ne _ _ (by omega)).trans fb_8_19)
  have fb_9_20 : μ20 (b + 9) = .inl (T 0, 6, .inl (fun _ => nI 0)) := (congrFun eμ20 _).trans ((va_up_ne _ _ (by omega)).trans fb_9_19)
  have fb_10_20 : μ20 (b + 10) = .inl (T 0, 6, .inl (fun _ => nI 0)) := (congrFun eμ20 _).trans ((va_up_ne _ _ (by omega)).trans fb_10_19)
  have fb_20 : μ20 (b) = .inr (5, [.int (nI 0), .ref (h0 + (b + 1)), .ref (h0 + (b + 2)), .ref (h0 + (b + 3)), .int (nI 0), .ref (h0 + (b + 4)), .int (nI 0), .ref (h0 + (b + 5)), .ref (h0 + (b + 6)), .int (nI 0), .int (nI 0), .ref (h0 + (b + 7)), .int (nI 0), .ref (h0 + (b + 8)), .ref (h0 + (b + 9)), .ref (h0 + (b + 10)), .long 0, .null, .null]) := by rw [eμ20, va_up_self]
  refine lv_aload_n hx hb dX5_init_85 rfl (lv_at hl 0 rfl) ?_
  refine lv_iconst (v := nI 2) hx hb dX5_init_86 (by decide) ?_
  refine gn_newa (t := 2) (atype := .boolean) (ty := .boolean) F hW rfl tw_687 rfl (fun q => q) rfl (Nat.le_of_ble_eq_true rfl) (by decide) (Nat.le_of_ble_eq_true rfl) (Nat.le_of_ble_eq_true rfl) dX5_init_87 (fun H hW => ?_)
  obtain ⟨μ21, eμ21⟩ : ∃ z9 : ME, z9 = va_up μ20 (b + 11) (.inl (T 2, 2, .inl (fun _ => nI 0))) := ⟨_, rfl⟩
  have hW : GS D T h0 s (b + 12) μ21 H locs := by rw [eμ21]; exact hW
  have fb_1_21 : μ21 (b + 1) = .inl (T 0, 6, .inl (fun _ => nI 0)) := (congrFun eμ21 _).trans ((va_up_ne _ _ (by omega)).trans fb_1_20)
  have fb_2_21 : μ21 (b + 2) = .inl (T 0, 62, .inl (fun _ => nI 0)) := (congrFun eμ21 _).trans ((va_up_ne _ _ (by omega)).trans fb_2_20)
  have fb_3_21 : μ21 (b + 3) = .inl (T 0, 24, .inl (fun _ => nI 0)) := (congrFun eμ21 _).trans ((va_up_ne _ _ (by omega)).trans fb_3_20)
  have fb_4_21 : μ21 (b + 4) = .inl (T 0, 64, .inl (fun _ => nI 0)) := (congrFun eμ21 _).trans ((va_up_ne _ _ (by omega)).trans fb_4_20)
  have fb_5_21 : μ21 (b + 5) = .inl (T 0, 6, .inl (fun _ => nI 0)) := (congrFun eμ21 _).trans ((va_up_ne _ _ (by omega)).trans fb_5_20)
  have fb_6_21 : μ21 (b + 6) = .inl (T 0, 6, .inl (fun _ => nI 0)) := (congrFun eμ21 _).trans ((va_up_ne _ _ (by omega)).trans fb_6_20)
  have fb_7_21 : μ21 (b + 7) = .inl (T 0, 434, .inl (fun _ => nI 0)) := (congrFun eμ21 _).trans ((va_up_ne _ _ (by omega)).trans fb_7_20)
  have fb_8_21 : μ21 (b + 8) = .inl (T 0, 6, .inl (fun _ => nI 0)) := (congrFun eμ21 _).trans ((va_up_ne _ _ (by omega)).trans fb_8_20)
  have fb_9_21 : μ21 (b + 9) = .inl (T 0, 6, .inl (fun _ => nI 0)) := (congrFun eμ21 _).trans ((va_up_ne _ _ (by omega)).trans fb_9_20)
  have fb_10_21 : μ21 (b + 10) = .inl (T 0, 6, .inl (fun _ => nI 0)) := (congrFun eμ21 _).trans ((va_up_ne _ _ (by omega)).trans fb_10_20)
  have fb_21 : μ21 (b) = .inr (5, [.int (nI 0), .ref (h0 + (b + 1)), .ref (h0 + (b + 2)), .ref (h0 + (b + 3)), .int (nI 0), .ref (h0 + (b + 4)), .int (nI 0), .ref (h0 + (b + 5)), .ref (h0 + (b + 6)), .int (nI 0), .int (nI 0), .ref (h0 + (b + 7)), .int (nI 0), .ref (h0 + (b + 8)), .ref (h0 + (b + 9)), .ref (h0 + (b + 10)), .long 0, .null, .null]) := (congrFun eμ21 _).trans ((va_up_ne _ _ (by omega)).trans fb_20)
  have fb_11_21 : μ21 (b + 11) = .inl (T 2, 2, .inl (fun _ => nI 0)) := by rw [eμ21, va_up_self]
  refine gn_put (i := b) F hin hW (by omega) (by omega) fb_21 rfl iX5 tyX5 tyX5_ok nmX5 17 (by decide) tw_646 rfl rfl rfl rfl (Nat.le_of_ble_eq_true rfl) dX5_init_89 (fun H locs hW => ?_)
  obtain ⟨μ22, eμ22⟩ : ∃ z9 : ME, z9 = va_up μ21 (b) (.inr (5, [.int (nI 0), .ref (h0 + (b + 1)), .ref (h0 + (b + 2)), .ref (h0 + (b + 3)), .int (nI 0), .ref (h0 + (b + 4)), .int (nI 0), .ref (h0 + (b + 5)), .ref (h0 + (b + 6)), .int (nI 0), .int (nI 0), .ref (h0 + (b + 7)), .int (nI 0), .ref (h0 + (b + 8)), .ref (h0 + (b + 9)), .ref (h0 + (b + 10)), .long 0, .ref (h0 + (b + 11)), .null])) := ⟨_, rfl⟩
  have hW : GS D T h0 s (b + 12) μ22 H locs := by rw [eμ22]; exact hW
  have fb_1_22 : μ22 (b + 1) = .inl (T 0, 6, .inl (fun _ => nI 0)) := (congrFun eμ22 _).trans ((va_up_ne _ _ (by omega)).trans fb_1_21)
  have fb_2_22 : μ22 (b + 2) = .inl (T 0, 62, .inl (fun _ => nI 0)) := (congrFun eμ22 _).trans ((va_up_ne _ _ (by omega)).trans fb_2_21)
  have fb_3_22 : μ22 (b + 3) = .inl (T 0, 24, .inl (fun _ => nI 0)) := (congrFun eμ22 _).trans ((va_up_ne _ _ (by omega)).trans fb_3_21)
  have fb_4_22 : μ22 (b + 4) = .inl (T 0, 64, .inl (fun _ => nI 0)) := (congrFun eμ22 _).trans ((va_up_ne _ _ (by omega)).trans fb_4_21)
  have fb_5_22 : μ22 (b + 5) = .inl (T 0, 6, .inl (fun _ => nI 0)) := (congrFun eμ22 _).trans ((va_up_ne _ _ (by omega)).trans fb_5_21)
  have fb_6_22 : μ22 (b + 6) = .inl (T 0, 6, .inl (fun _ => nI 0)) := (congrFun eμ22 _).trans ((va_up_ne _ _ (by omega)).trans fb_6_21)
  have fb_7_22 : μ22 (b + 7) = .inl (T 0, 434, .inl (fun _ => nI 0)) := (congrFun eμ22 _).trans ((va_up_ne _ _ (by omega)).trans fb_7_21)
  have fb_8_22 : μ22 (b + 8) = .inl (T 0, 6, .inl (fun _ => nI 0)) := (congrFun eμ22 _).trans ((va_up_ne _ _ (by omega)).trans fb_8_21)
  have fb_9_22 : μ22 (b + 9) = .inl (T 0, 6, .inl (fun _ => nI 0)) := (congrFun eμ22 _).trans ((va_up_ne _ _ (by omega)).trans fb_9_21)
  have fb_10_22 : μ22 (b + 10) = .inl (T 0, 6, .inl (fun _ => nI 0)) := (congrFun eμ22 _).trans ((va_up_ne _ _ (by omega)).trans fb_10_21)
  have fb_11_22 : μ22 (b + 11) = .inl (T 2, 2, .inl (fun _ => nI 0)) := (congrFun eμ22 _).trans ((va_up_ne _ _ (by omega)).trans fb_11_21)
  have fb_22 : μ22 (b) = .inr (5, [.int (nI 0), .ref (h0 + (b + 1)), .ref (h0 + (b + 2)), .ref (h0 + (b + 3)), .int (nI 0), .ref (h0 + (b + 4)), .int (nI 0), .ref (h0 + (b + 5)), .ref (h0 + (b + 6)), .int (nI 0), .int (nI 0), .ref (h0 + (b + 7)), .int (nI 0), .ref (h0 + (b + 8)), .ref (h0 + (b + 9)), .ref (h0 + (b + 10)), .long 0, .ref (h0 + (b + 11)), .null]) := by rw [eμ22, va_up_self]
  refine lv_aload_n hx hb dX5_init_92 rfl (lv_at hl 0 rfl) ?_
  refine lv_bipush (v := nI 62) hx hb dX5_init_93 (by decide) ?_
  refine gn_newa (t := 0) (atype := .int) (ty := .int) F hW rfl tw_109 rfl (fun q => q) rfl (Nat.le_of_ble_eq_true rfl) (by decide) (Nat.le_of_ble_eq_true rfl) (Nat.le_of_ble_eq_true rfl) dX5_init_95 (fun H hW => ?_)
  obtain ⟨μ23, eμ23⟩ : ∃ z9 : ME, z9 = va_up μ22 (b + 12) (.inl (T 0, 62, .inl (fun _ => nI 0))) := ⟨_, rfl⟩
  have hW : GS D T h0 s (b + 13) μ23 H locs := by rw [eμ23]; exact hW
  have fb_1_23 : μ23 (b + 1) = .inl (T 0, 6, .inl (fun _ => nI 0)) := (congrFun eμ23 _).trans ((va_up_ne _ _ (by omega)).trans fb_1_22)
  have fb_2_23 : μ23 (b + 2) = .inl (T 0, 62, .inl (fun _ => nI 0)) := (congrFun eμ23 _).trans ((va_up_ne _ _ (by omega)).trans fb_2_22)
  have fb_3_23 : μ23 (b + 3) = .inl (T 0, 24, .inl (fun _ => nI 0)) := (congrFun eμ23 _).trans ((va_up_ne _ _ (by omega)).trans fb_3_22)
  have fb_4_23 : μ23 (b + 4) = .inl (T 0, 64, .inl (fun _ => nI 0)) := (congrFun eμ23 _).trans ((va_up_ne _ _ (by omega)).trans fb_4_22)
  have fb_5_23 : μ23 (b + 5) = .inl (T 0, 6, .inl (fun _ => nI 0)) := (congrFun eμ23 _).trans ((va_up_ne _ _ (by omega)).trans fb_5_22)
  have fb_6_23 : μ23 (b + 6) = .inl (T 0, 6, .inl (fun _ => nI 0)) := (congrFun eμ23 _).trans ((va_up_ne _ _ (by omega)).trans fb_6_22)
  have fb_7_23 : μ23 (b + 7) = .inl (T 0, 434, .inl (fun _ => nI 0)) := (congrFun eμ23 _).trans ((va_up_ne _ _ (by omega)).trans fb_7_22)
  have fb_8_23 : μ23 (b + 8) = .inl (T 0, 6, .inl (fun _ => nI 0)) := (congrFun eμ23 _).trans ((va_up_ne _ _ (by omega)).trans fb_8_22)
  have fb_9_23 : μ23 (b + 9) = .inl (T 0, 6, .inl (fun _ => nI 0)) := (congrFun eμ23 _).trans ((va_up_ne _ _ (by omega)).trans fb_9_22)
  have fb_10_23 : μ23 (b + 10) = .inl (T 0, 6, .inl (fun _ => nI 0)) := (congrFun eμ23 _).trans ((va_up_ne _ _ (by omega)).trans fb_10_22)
  have fb_11_23 : μ23 (b + 11) = .inl (T 2, 2, .inl (fun _ => nI 0)) := (congrFun eμ23 _).trans ((va_up_ne _ _ (by omega)).trans fb_11_22)
  have fb_23 : μ23 (b) = .inr (5, [.int (nI 0), .ref (h0 + (b + 1)), .ref (h0 + (b + 2)), .ref (h0 + (b + 3)), .int (nI 0), .ref (h0 + (b + 4)), .int (nI 0), .ref (h0 + (b + 5)), .ref (h0 + (b + 6)), .int (nI 0), .int (nI 0), .ref (h0 + (b + 7)), .int (nI 0), .ref (h0 + (b + 8)), .ref (h0 + (b + 9)), .ref (h0 + (b + 10)), .long 0, .ref (h0 + (b + 11)), .null]) := (congrFun eμ23 _).trans ((va_up_ne _ _ (by omega)).trans fb_22)
  have fb_12_23 : μ23 (b + 12) = .inl (T 0, 62, .inl (fun _ => nI 0)) := by rw [eμ23, va_up_self]
  refine gn_put (i := b) F hin hW (by omega) (by omega) fb_23 rfl iX5 tyX5 tyX5_ok nmX5 18 (by decide) tw_647 rfl rfl rfl rfl (Nat.le_of_ble_eq_true rfl) dX5_init_97 (fun H locs hW => ?_)
  obtain ⟨μ24, eμ24⟩ : ∃ z9 : ME, z9 = va_up μ23 (b) (.inr (5, [.int (nI 0), .ref (h0 + (b + 1)), .ref (h0 + (b + 2)), .ref (h0 + (b + 3)), .int (nI 0), .ref (h0 + (b + 4)), .int (nI 0), .ref (h0 + (b + 5)), .ref (h0 + (b + 6)), .int (nI 0), .int (nI 0), .ref (h0 + (b + 7)), .int (nI 0), .ref (h0 + (b + 8)), .ref (h0 + (b + 9)), .ref (h0 + (b + 10)), .long 0, .ref (h0 + (b + 11)), .ref (h0 + (b + 12))])) := ⟨_, rfl⟩
  have hW : GS D T h0 s (b + 13) μ24 H locs := by rw [eμ24]; exact hW
  have fb_1_24 : μ24 (b + 1) = .inl (T 0, 6, .inl (fun _ => nI 0)) := (congrFun eμ24 _).trans ((va_up_ne _ _ (by omega)).trans fb_1_23)
  have fb_2_24 : μ24 (b + 2) = .inl (T 0, 62, .inl (fun _ => nI 0)) := (congrFun eμ24 _).trans ((va_up_ne _ _ (by omega)).trans fb_2_23)
  have fb_3_24 : μ24 (b + 3) = .inl (T 0, 24, .inl (fun _ => nI 0)) := (congrFun eμ24 _).trans ((va_up_ne _ _ (by omega)).trans fb_3_23)
  have fb_4_24 : μ24 (b + 4) = .inl (T 0, 64, .inl (fun _ => nI 0)) := (congrFun eμ24 _).trans ((va_up_ne _ _ (by omega)).trans fb_4_23)
  have fb_5_24 : μ24 (b + 5) = .inl (T 0, 6, .inl (fun _ => nI 0)) := (congrFun eμ24 _).trans ((va_up_ne _ _ (by omega)).trans fb_5_23)
  have fb_6_24 : μ24 (b + 6) = .inl (T 0, 6, .inl (fun _ => nI 0)) := (congrFun eμ24 _).trans ((va_up_ne _ _ (by omega)).trans fb_6_23)
  have fb_7_24 : μ24 (b + 7) = .inl (T 0, 434, .inl (fun _ => nI 0)) := (congrFun eμ24 _).trans ((va_up_ne _ _ (by omega)).trans fb_7_23)
  have fb_8_24 : μ24 (b + 8) = .inl (T 0, 6, .inl (fun _ => nI 0)) := (congrFun eμ24 _).trans ((va_up_ne _ _ (by omega)).trans fb_8_23)
  have fb_9_24 : μ24 (b + 9) = .inl (T 0, 6, .inl (fun _ => nI 0)) := (congrFun eμ24 _).trans ((va_up_ne _ _ (by omega)).trans fb_9_23)
  have fb_10_24 : μ24 (b + 10) = .inl (T 0, 6, .inl (fun _ => nI 0)) := (congrFun eμ24 _).trans ((va_up_ne _ _ (by omega)).trans fb_10_23)
  have fb_11_24 : μ24 (b + 11) = .inl (T 2, 2, .inl (fun _ => nI 0)) := (congrFun eμ24 _).trans ((va_up_ne _ _ (by omega)).trans fb_11_23)
  have fb_12_24 : μ24 (b + 12) = .inl (T 0, 62, .inl (fun _ => nI 0)) := (congrFun eμ24 _).trans ((va_up_ne _ _ (by omega)).trans fb_12_23)
  have fb_24 : μ24 (b) = .inr (5, [.int (nI 0), .ref (h0 + (b + 1)), .ref (h0 + (b + 2)), .ref (h0 + (b + 3)), .int (nI 0), .ref (h0 + (b + 4)), .int (nI 0), .ref (h0 + (b + 5)), .ref (h0 + (b + 6)), .int (nI 0), .int (nI 0), .ref (h0 + (b + 7)), .int (nI 0), .ref (h0 + (b + 8)), .ref (h0 + (b + 9)), .ref (h0 + (b + 10)), .long 0, .ref (h0 + (b + 11)), .ref (h0 + (b + 12))]) := by rw [eμ24, va_up_self]
  exact gn_ret (N := b + 1 + 12) (k := 12) (sl := 684) F hr hlk hW ⟨fun i hi => by rw [eμ24, va_up_ne _ _ (by omega)]; rw [eμ23, va_up_ne _ _ (by omega)]; rw [eμ22, va_up_ne _ _ (by omega)]; rw [eμ21, va_up_ne _ _ (by omega)]; rw [eμ20, va_up_ne _ _ (by omega)]; rw [eμ19, va_up_ne _ _ (by omega)]; rw [eμ18, va_up_ne _ _ (by omega)]; rw [eμ17, va_up_ne _ _ (by omega)]; rw [eμ16, va_up_ne _ _ (by omega)]; rw [eμ15, va_up_ne _ _ (by omega)]; rw [eμ14, va_up_ne _ _ (by omega)]; rw [eμ13, va_up_ne _ _ (by omega)]; rw [eμ12, va_up_ne _ _ (by omega)]; rw [eμ11, va_up_ne _ _ (by omega)]; rw [eμ10, va_up_ne _ _ (by omega)]; rw [eμ9, va_up_ne _ _ (by omega)]; rw [eμ8, va_up_ne _ _ (by omega)]; rw [eμ7, va_up_ne _ _ (by omega)]; rw [eμ6, va_up_ne _ _ (by omega)]; rw [eμ5, va_up_ne _ _ (by omega)]; rw [eμ4, va_up_ne _ _ (by omega)]; rw [eμ3, va_up_ne _ _ (by omega)]; rw [eμ2, va_up_ne _ _ (by omega)]; rw [eμ1, va_up_ne _ _ (by omega)], fb_24, fb_1_24, fb_2_24, fb_3_24, fb_4_24, fb_5_24, fb_6_24, fb_7_24, fb_8_24, fb_9_24, fb_10_24, fb_11_24, fb_12_24⟩ dX5_init_100
