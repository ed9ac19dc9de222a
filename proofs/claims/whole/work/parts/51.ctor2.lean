def L0 : LN := (0, fun _ => 0, fun _ => 0, fun _ => 0, fun _ => 0, fun _ => 0, 0, 0)
theorem lane0 {D : va_G} {T : Nat → ClassId} {h0 b : Nat} {μ1 : ME} (h : μ1 b = .inr (0, [.ref (h0 + (b + 1)), .ref (h0 + (b + 2)), .ref (h0 + (b + 3)), .ref (h0 + (b + 4)), .ref (h0 + (b + 5)), .ref (h0 + (b + 6)), .int (nI 0), .int (nI 0), .int (nI 0)]) ∧ μ1 (b + 1) = .inl (T 0, 6, .inl (fun _ => nI 0)) ∧ μ1 (b + 2) = .inl (T 0, 6, .inl (fun _ => nI 0)) ∧ μ1 (b + 3) = .inl (T 0, 6, .inl (fun _ => nI 0)) ∧ μ1 (b + 4) = .inl (T 0, 6, .inl (fun _ => nI 0)) ∧ μ1 (b + 5) = .inl (T 0, 6, .inl (fun _ => nI 0)) ∧ μ1 (b + 6) = .inl (T 0, 6, .inl (fun _ => nI 0))) : laneR (gx D T h0 149) μ1 b L0 :=
  ⟨_, _, _, _, _, _, h.1, h.2.1, h.2.2.1, h.2.2.2.1, h.2.2.2.2.1, h.2.2.2.2.2.1, h.2.2.2.2.2.2, fun i hi => absurd (show i < 0 from hi) (by omega), fun i hi => absurd (show (decide (i < 0) && Nat.testBit 0 i) = true from hi) (by simp)⟩
theorem laneR_in {cx : CX} {μ μ1 : ME} {b : Nat} {L : LN} (h : laneR cx μ b L) (ho : ∀ i, b ≤ i → i < b + 7 → μ1 i = μ i) : laneR cx μ1 b L := by
  obtain ⟨fk, fs, fg, fd, fl, fc, h0, h1, h2, h3, h4, h5, h6, h7, h8⟩ := h
  exact ⟨fk, fs, fg, fd, fl, fc, (ho _ (by omega) (by omega)).trans h0, (ho _ (by omega) (by omega)).trans h1, (ho _ (by omega) (by omega)).trans h2, (ho _ (by omega) (by omega)).trans h3, (ho _ (by omega) (by omega)).trans h4, (ho _ (by omega) (by omega)).trans h5, (ho _ (by omega) (by omega)).trans h6, h7, h8⟩
theorem pastR_in {cx : CX} {μ μ1 : ME} {b z : Nat} {PN : Nat → LN} (h : pastR cx μ b z PN) (ho : ∀ i, b ≤ i → i < b + 100 → μ1 i = μ i) : pastR cx μ1 b z PN := by
  obtain ⟨g, fi, h0, h1, h2, h3, h4, h5, h6⟩ := h
  refine ⟨g, fi, (ho _ (by omega) (by omega)).trans h0, (ho _ (by omega) (by omega)).trans h1, h2, fun j hj => ?_, fun k hk => laneR_in (h4 k hk) (fun i a c => ho i (by omega) (by omega)), h5, h6⟩
  obtain ⟨L, hL⟩ := h3 j hj
  exact ⟨L, laneR_in hL (fun i a c => ho i (by omega) (by omega))⟩

set_option maxHeartbeats 4000000 in
set_option maxRecDepth 100000 in
theorem g_X1_init {D : va_G} {T : Nat → ClassId} {h0 : Nat} (l : Launch) {μ : ME} (b : Nat) (hb0 : μ (b) = .inr (1, [.null, .int (nI 0), .int (nI 0)])) : GT D T h0 l yX1_init cX1_init 2 2 40 (b + 1) 99 644 [.ref (h0 + b)] μ (fun μ1 => (∀ i, i < b → μ1 i = μ i) ∧ pastR (gx D T h0 149) μ1 b 0 (fun _ => L0)) := by
  refine gt_of (by decide) rfl (Nat.le_of_ble_eq_true rfl) ?_
  intro p e s m below meth c ls F hin hr hlk hW hl
  have hsz := hW.2.2.1
  have hx := F.1.1
  have hb := F.1.2.1
  have hl : lv_has ls 2 [(0, .ref (h0 + b))] := hl
  refine lv_aload_n hx hb dX1_init_0 rfl (lv_at hl 0 rfl) ?_
  refine gn_obj F hl.1 tw_115 (Nat.le_of_ble_eq_true rfl) (Nat.le_of_ble_eq_true rfl) (Nat.le_of_ble_eq_true rfl) dX1_init_1 ?_
  refine lv_aload_n hx hb dX1_init_4 rfl (lv_at hl 0 rfl) ?_
  refine lv_bipush (v := nI 14) hx hb dX1_init_5 (by decide) ?_
  refine gn_newq F hW tw_116 (Nat.le_of_ble_eq_true rfl) (by decide) (Nat.le_of_ble_eq_true rfl) (Nat.le_of_ble_eq_true rfl) dX1_init_7 (fun H hW => ?_)
  obtain ⟨locs, elocs⟩ : ∃ z9 : List Loc, z9 = [] := ⟨_, rfl⟩
  rw [← elocs] at hW ⊢
  obtain ⟨μ1, eμ1⟩ : ∃ z9 : ME, z9 = va_up μ (b + 1) (.inl (T 3, 14, .inr (.inr (.inr (.inr (fun _ => none)))))) := ⟨_, rfl⟩
  have hW : GS D T h0 s (b + 2) μ1 H locs := by rw [eμ1]; exact hW
  have fb_1 : μ1 (b) = .inr (1, [.null, .int (nI 0), .int (nI 0)]) := (congrFun eμ1 _).trans ((va_up_ne _ _ (by omega)).trans hb0)
  have fb_1_1 : μ1 (b + 1) = .inl (T 3, 14, .inr (.inr (.inr (.inr (fun _ => none))))) := by rw [eμ1, va_up_self]
  refine gn_put (i := b) F hin hW (by omega) (by omega) fb_1 rfl iX1 tyX1 tyX1_ok nmX1 0 (by decide) tw_119 rfl rfl rfl rfl (Nat.le_of_ble_eq_true rfl) dX1_init_10 (fun H locs hW => ?_)
  obtain ⟨μ2, eμ2⟩ : ∃ z9 : ME, z9 = va_up μ1 (b) (.inr (1, [.ref (h0 + (b + 1)), .int (nI 0), .int (nI 0)])) := ⟨_, rfl⟩
  have hW : GS D T h0 s (b + 2) μ2 H locs := by rw [eμ2]; exact hW
  have fb_1_2 : μ2 (b + 1) = .inl (T 3, 14, .inr (.inr (.inr (.inr (fun _ => none))))) := (congrFun eμ2 _).trans ((va_up_ne _ _ (by omega)).trans fb_1_1)
  have fb_2 : μ2 (b) = .inr (1, [.ref (h0 + (b + 1)), .int (nI 0), .int (nI 0)]) := by rw [eμ2, va_up_self]
  refine lv_iconst (v := nI 0) hx hb dX1_init_13 (by decide) ?_
  refine lv_istore_n (lv' := [(1, .int (nI 0)), (0, .ref (h0 + b))]) hx hb dX1_init_14 rfl hl (by decide) rfl (fun ls hl => ?_)
  have LOOP : ∀ (d j : Nat) (μ1 : ME) (g : Nat → Option Nat) (H : Heap) (locs : List Loc) (ls : Array Slot), j + d = 14 → GS D T h0 s (b + 2 + 7 * j) μ1 H locs → μ1 b = .inr (1, [.ref (h0 + (b + 1)), .int (nI 0), .int (nI 0)]) → μ1 (b + 1) = .inl (T 3, 14, .inr (.inr (.inr (.inr g)))) → (∀ i, i < j → g i = some (h0 + (b + 2 + 7 * i))) → (∀ i, i < j → laneR (gx D T h0 149) μ1 (b + 2 + 7 * i) L0) → (∀ i, i < b → μ1 i = μ i) → lv_has ls 2 [(0, .ref (h0 + b)), (1, .int (nI j))] → W p l e { frames := 2, cells := 99, slots := 644, locals := 40 } s m [.ref (h0 + b)].toArray below meth c H locs (1 + 7 * j) (14 + 45 * j) (MQ below (va_Qv (fun μ1 => (∀ i, i < b → μ1 i = μ i) ∧ pastR (gx D T h0 149) μ1 b 0 (fun _ => L0)) (GP D T h0 (b + 1 + 99)) (GA h0)) [.ref (h0 + b)].toArray s 99 644 (GA h0)) (F0 m 15 ls []) := by
    intro d
    induction d with
    | zero =>
      intro j μ1 g H locs ls hj hW f0 f1 hg hL ho hl
      have hj : j = 14 := by omega
      subst hj
      refine lv_iload_n hx hb dX1_init_15 rfl (lv_at hl 1 rfl) ?_
      refine lv_bipush (v := nI 14) hx hb dX1_init_16 (by decide) ?_
      refine lv_icmp_ge (tgt := 40) hx hb dX1_init_18 (by decide) (fun _ => ?_) (fun q => absurd (show nI 14 ≤ nI 14 by decide) q)
      exact gn_ret (N := b + 1 + 99) (k := 99) (sl := 644) F hr hlk hW ⟨ho, g, 0, f0, f1, hg, fun j9 hj9 => ⟨L0, hL j9 hj9⟩, fun k hk => absurd hk (by omega), by decide, by decide⟩ dX1_init_40
    | succ d ih =>
      intro j μ1 g H locs ls hj hW f0 f1 hg hL ho hl
      refine lv_iload_n hx hb dX1_init_15 rfl (lv_at hl 1 rfl) ?_
      refine lv_bipush (v := nI 14) hx hb dX1_init_16 (by decide) ?_
      refine lv_icmp_ge (tgt := 40) hx hb dX1_init_18 (by decide) (fun q => absurd ((nI_leI (by decide) (by omega)).mp q) (by omega)) (fun _ => ?_)
      refine lv_aload_n hx hb dX1_init_21 rfl (lv_at hl 0 rfl) ?_
      refine gn_get (i := b) F hW (by omega) f0 rfl iX1 0 (by decide) tw_119 rfl dX1_init_22 ?_
      refine lv_iload_n hx hb dX1_init_25 rfl (lv_at hl 1 rfl) ?_
      refine gn_new (ci := 0) (fs := [.null, .null, .null, .null, .null, .null, .int (nI 0), .int (nI 0), .int (nI 0)]) F hW rfl iX0 tyX0 tyX0_ok tw_116 tw_76 tw_46 (fun j9 hj9 => by rcases (show j9 = 0 ∨ j9 = 1 ∨ j9 = 2 ∨ j9 = 3 ∨ j9 = 4 ∨ j9 = 5 ∨ j9 = 6 ∨ j9 = 7 ∨ j9 = 8 by omega) with rfl | rfl | rfl | rfl | rfl | rfl | rfl | rfl | rfl <;> rfl) (by show 1 + 7 * j + 1 ≤ 99; omega) (by show 14 + 45 * j + 9 ≤ 644; omega) dX1_init_26 (fun H hW => ?_)
      obtain ⟨μ21, eμ21⟩ : ∃ z9 : ME, z9 = va_up μ1 (b + 2 + 7 * j) (.inr (0, [.null, .null, .null, .null, .null, .null, .int (nI 0), .int (nI 0), .int (nI 0)])) := ⟨_, rfl⟩
      have hW : GS D T h0 s (b + 2 + 7 * j + 1) μ21 H locs := by rw [eμ21]; exact hW
      have fb_21 : μ21 (b) = .inr (1, [.ref (h0 + (b + 1)), .int (nI 0), .int (nI 0)]) := (congrFun eμ21 _).trans ((va_up_ne _ _ (by omega)).trans f0)
      have fb_1_21 : μ21 (b + 1) = .inl (T 3, 14, .inr (.inr (.inr (.inr g)))) := (congrFun eμ21 _).trans ((va_up_ne _ _ (by omega)).trans f1)
      have fb_2_7_j_21 : μ21 (b + 2 + 7 * j) = .inr (0, [.null, .null, .null, .null, .null, .null, .int (nI 0), .int (nI 0), .int (nI 0)]) := by rw [eμ21, va_up_self]
      refine lv_dup hx hb dX1_init_29 rfl ?_
      refine gn_callN (host := RX4) F hW (g_X0_init l (b + 2 + 7 * j) fb_2_7_j_21) tw_79 F.2.2.2.2.2.2 tw_46 tw_78 rfl (by decide +kernel) ⟨(Nat.le_of_ble_eq_true rfl), (Nat.le_of_ble_eq_true rfl)⟩ hl (Nat.le_of_ble_eq_true rfl) dX1_init_30 ⟨by show 1 + 7 * j + 1 + 6 ≤ 99; omega, by show 14 + 45 * j + 9 + 36 ≤ 644; omega⟩ (fun μ3 H locs q_μ3 hW => ?_)
      have hLn : laneR (gx D T h0 149) μ3 (b + 2 + 7 * j) L0 := lane0 q_μ3.2
      have hof : ∀ i, i < b + 2 + 7 * j → μ3 i = μ1 i := fun i hi => by rw [q_μ3.1 i hi, eμ21, va_up_ne _ _ (by omega)]
      refine gn_ast (i := b + 1) (j := j) (q := b + 2 + 7 * j) F hW (by omega) (by omega) ((hof _ (by omega)).trans f1) (by omega) q_μ3.2.1 (by omega) (by decide) dX1_init_33 (fun H locs hW => ?_)
      obtain ⟨μ4, e4⟩ : ∃ z9 : ME, z9 = va_up μ3 (b + 1) (.inl (T 3, 14, .inr (.inr (.inr (.inr (va_up g j (some (h0 + (b + 2 + 7 * j))))))))) := ⟨_, rfl⟩
      have hW : GS D T h0 s (b + 2 + 7 * (j + 1)) μ4 H locs := by rw [e4, show b + 2 + 7 * (j + 1) = b + 2 + 7 * j + 1 + 6 by omega]; exact hW
      have o4 : ∀ i, ¬ i = b + 1 → μ4 i = μ3 i := fun i hi => by rw [e4, va_up_ne _ _ hi]
      refine lv_iinc (v := nI (j + 1)) (lv' := [(1, .int (nI (j + 1))), (0, .ref (h0 + b))]) hx hb dX1_init_34 hl (k := 1) rfl (nI_add _ _) (by decide) rfl (fun ls hl => ?_)
      refine lv_goto (tgt := 15) hx hb dX1_init_37 (by decide) ?_
      refine W.widen (k := 1 + 7 * (j + 1)) (n := 14 + 45 * (j + 1)) (by omega) (by omega) ?_
      refine ih (j + 1) μ4 (va_up g j (some (h0 + (b + 2 + 7 * j)))) H locs ls (by omega) hW (((o4 _ (by omega)).trans (hof _ (by omega))).trans f0) (by rw [e4, va_up_self]) (fun i hi => ?_) (fun i hi => ?_) (fun i hi => ((o4 _ (by omega)).trans (hof _ (by omega))).trans (ho i hi)) (lv_sub hl [1, 0] rfl)
      · by_cases e9 : i = j
        · rw [e9, va_up_self]
        · rw [va_up_ne _ _ e9]; exact hg i (by omega)
      · by_cases e9 : i = j
        · rw [e9]; exact laneR_in hLn (fun z h1 h2 => o4 z (by omega))
        · exact laneR_in (hL i (by omega)) (fun z h1 h2 => (o4 z (by omega)).trans (hof z (by omega)))
  refine W.widen (k := 1 + 7 * 0) (n := 14 + 45 * 0) (Nat.le_of_ble_eq_true rfl) (Nat.le_of_ble_eq_true rfl) ?_
  exact LOOP 14 0 μ2 _ _ _ _ (by omega) hW fb_2 fb_1_2 (fun i hi => absurd hi (by omega)) (fun i hi => absurd hi (by omega)) (fun i hi => by rw [eμ2, va_up_ne _ _ (by omega), eμ1, va_up_ne _ _ (by omega)]) (lv_sub hl [1, 0] rfl)

def S0 : AS := (fun _ => 0, 0, L0, fun _ => L0, 0, fun _ => 0, fun _ => 0, fun _ => 0, 0, 0, fun _ => L0, 0)

set_option maxHeartbeats 4000000 in
set_option maxRecDepth 100000 in
theorem g_X4_init {D : va_G} {T : Nat → ClassId} {h0 : Nat} (l : Launch) {μ : ME}  (hb0 : μ (0) = .inr (4, [.null, .null, .null, .null, .null, .null, .int (nI 0), .long 0])) : GT D T h0 l yX4_init cX4_init 2 3 61 (0 + 1) 135 917 [.ref (h0 + 0)] μ (fun μ1 => mainR (gx D T h0 149) μ1 S0) := by
  refine gt_of (by decide) rfl (Nat.le_of_ble_eq_true rfl) ?_
  intro p e s m below meth c ls F hin hr hlk hW hl
  have hsz := hW.2.2.1
  have hx := F.1.1
  have hb := F.1.2.1
  have hl : lv_has ls 2 [(0, .ref (h0 + 0))] := hl
  refine lv_aload_n hx hb dX4_init_0 rfl (lv_at hl 0 rfl) ?_
  refine gn_obj F hl.1 tw_58 (Nat.le_of_ble_eq_true rfl) (Nat.le_of_ble_eq_true rfl) (Nat.le_of_ble_eq_true rfl) dX4_init_1 ?_
  obtain ⟨locs, elocs⟩ : ∃ z9 : List Loc, z9 = [] := ⟨_, rfl⟩
  rw [← elocs] at hW ⊢
  refine lv_aload_n hx hb dX4_init_4 rfl (lv_at hl 0 rfl) ?_
  refine gn_new (ci := 3) (fs := [.null, .int (nI 0)]) F hW rfl iX3 tyX3 tyX3_ok tw_61 tw_62 tw_45 (fun j9 hj9 => by rcases (show j9 = 0 ∨ j9 = 1 by omega) with rfl | rfl <;> rfl) (Nat.le_of_ble_eq_true rfl) (Nat.le_of_ble_eq_true rfl) dX4_init_5 (fun H hW => ?_)
  obtain ⟨μ1, eμ1⟩ : ∃ z9 : ME, z9 = va_up μ (1) (.inr (3, [.null, .int (nI 0)])) := ⟨_, rfl⟩
  have hW : GS D T h0 s (2) μ1 H locs := by rw [eμ1]; exact hW
  have f0_1 : μ1 (0) = .inr (4, [.null, .null, .null, .null, .null, .null, .int (nI 0), .long 0]) := (congrFun eμ1 _).trans ((va_up_ne _ _ (by omega)).trans hb0)
  have f1_1 : μ1 (1) = .inr (3, [.null, .int (nI 0)]) := by rw [eμ1, va_up_self]
  refine lv_dup hx hb dX4_init_8 rfl ?_
  refine gn_callN (host := RX4) F hW (g_X3_init l 1 f1_1) tw_65 F.2.2.2.1 tw_45 tw_64 rfl (by decide +kernel) ⟨(Nat.le_of_ble_eq_true rfl), (Nat.le_of_ble_eq_true rfl)⟩ hl (Nat.le_of_ble_eq_true rfl) dX4_init_9 ⟨(Nat.le_of_ble_eq_true rfl), (Nat.le_of_ble_eq_true rfl)⟩ (fun μt H locs q_μt hW => ?_)
  have f0_μt : μt 0 = .inr (4, [.null, .null, .null, .null, .null, .null, .int (nI 0), .long 0]) := (q_μt.1 0 (by omega)).trans f0_1
  have hW : GS D T h0 s 3 μt H locs := hW
  refine gn_put (i := 0) F hin hW (by omega) (by omega) f0_μt rfl iX4 tyX4 tyX4_ok nmX4 0 (by decide) tw_148 rfl rfl rfl rfl (Nat.le_of_ble_eq_true rfl) dX4_init_12 (fun H locs hW => ?_)
  obtain ⟨μ2, eμ2⟩ : ∃ z9 : ME, z9 = va_up μt (0) (.inr (4, [.ref (h0 + 1), .null, .null, .null, .null, .null, .int (nI 0), .long 0])) := ⟨_, rfl⟩
  have hW : GS D T h0 s (3) μ2 H locs := by rw [eμ2]; exact hW
  have f1_2 : μ2 (1) = .inr (3, [.ref (h0 + (1 + 1)), .int (nI 0)]) := (congrFun eμ2 _).trans ((va_up_ne _ _ (by omega)).trans q_μt.2.1)
  have f2_2 : μ2 (2) = .inl (T 1, 64, .inl (fun _ => nI 0)) := (congrFun eμ2 _).trans ((va_up_ne _ _ (by omega)).trans q_μt.2.2)
  have f0_2 : μ2 (0) = .inr (4, [.ref (h0 + 1), .null, .null, .null, .null, .null, .int (nI 0), .long 0]) := by rw [eμ2, va_up_self]
  refine lv_aload_n hx hb dX4_init_15 rfl (lv_at hl 0 rfl) ?_
  refine gn_new (ci := 0) (fs := [.null, .null, .null, .null, .null, .null, .int (nI 0), .int (nI 0), .int (nI 0)]) F hW rfl iX0 tyX0 tyX0_ok tw_75 tw_76 tw_46 (fun j9 hj9 => by rcases (show j9 = 0 ∨ j9 = 1 ∨ j9 = 2 ∨ j9 = 3 ∨ j9 = 4 ∨ j9 = 5 ∨ j9 = 6 ∨ j9 = 7 ∨ j9 = 8 by omega) with rfl | rfl | rfl | rfl | rfl | rfl | rfl | rfl | rfl <;> rfl) (Nat.le_of_ble_eq_true rfl) (Nat.le_of_ble_eq_true rfl) dX4_init_16 (fun H hW => ?_)
  obtain ⟨μ3, eμ3⟩ : ∃ z9 : ME, z9 = va_up μ2 (3) (.inr (0, [.null, .null, .null, .null, .null, .null, .int (nI 0), .int (nI 0), .int (nI 0)])) := ⟨_, rfl⟩
  have hW : GS D T h0 s (4) μ3 H locs := by rw [eμ3]; exact hW
  have f1_3 : μ3 (1) = .inr (3, [.ref (h0 + (1 + 1)), .int (nI 0)]) := (congrFun eμ3 _).trans ((va_up_ne _ _ (by omega)).trans f1_2)
  have f2_3 : μ3 (2) = .inl (T 1, 64, .inl (fun _ => nI 0)) := (congrFun eμ3 _).trans ((va_up_ne _ _ (by omega)).trans f2_2)
  have f0_3 : μ3 (0) = .inr (4, [.ref (h0 + 1), .null, .null, .null, .null, .null, .int (nI 0), .long 0]) := (congrFun eμ3 _).trans ((va_up_ne _ _ (by omega)).trans f0_2)
  have f3_3 : μ3 (3) = .inr (0, [.null, .null, .null, .null, .null, .null, .int (nI 0), .int (nI 0), .int (nI 0)]) := by rw [eμ3, va_up_self]
  refine lv_dup hx hb dX4_init_19 rfl ?_
  refine gn_callN (host := RX4) F hW (g_X0_init l 3 f3_3) tw_79 F.2.2.2.2.1 tw_46 tw_78 rfl (by decide +kernel) ⟨(Nat.le_of_ble_eq_true rfl), (Nat.le_of_ble_eq_true rfl)⟩ hl (Nat.le_of_ble_eq_true rfl) dX4_init_20 ⟨(Nat.le_of_ble_eq_true rfl), (Nat.le_of_ble_eq_true rfl)⟩ (fun μn H locs q_μn hW => ?_)
  have f1_μn : μn 1 = .inr (3, [.ref (h0 + (1 + 1)), .int (nI 0)]) := (q_μn.1 1 (by omega)).trans f1_3
  have f2_μn : μn 2 = .inl (T 1, 64, .inl (fun _ => nI 0)) := (q_μn.1 2 (by omega)).trans f2_3
  have f0_μn : μn 0 = .inr (4, [.ref (h0 + 1), .null, .null, .null, .null, .null, .int (nI 0), .long 0]) := (q_μn.1 0 (by omega)).trans f0_3
  have hW : GS D T h0 s 10 μn H locs := hW
  refine gn_put (i := 0) F hin hW (by omega) (by omega) f0_μn rfl iX4 tyX4 tyX4_ok nmX4 1 (by decide) tw_149 rfl rfl rfl rfl (Nat.le_of_ble_eq_true rfl) dX4_init_23 (fun H locs hW => ?_)
  obtain ⟨μ4, eμ4⟩ : ∃ z9 : ME, z9 = va_up μn (0) (.inr (4, [.ref (h0 + 1), .ref (h0 + 3), .null, .null, .null, .null, .int (nI 0), .long 0])) := ⟨_, rfl⟩
  have hW : GS D T h0 s (10) μ4 H locs := by rw [eμ4]; exact hW
  have f1_4 : μ4 (1) = .inr (3, [.ref (h0 + (1 + 1)), .int (nI 0)]) := (congrFun eμ4 _).trans ((va_up_ne _ _ (by omega)).trans f1_μn)
  have f2_4 : μ4 (2) = .inl (T 1, 64, .inl (fun _ => nI 0)) := (congrFun eμ4 _).trans ((va_up_ne _ _ (by omega)).trans f2_μn)
  have f0_4 : μ4 (0) = .inr (4, [.ref (h0 + 1), .ref (h0 + 3), .null, .null, .null, .null, .int (nI 0), .long 0]) := by rw [eμ4, va_up_self]
  refine lv_aload_n hx hb dX4_init_26 rfl (lv_at hl 0 rfl) ?_
  refine gn_new (ci := 0) (fs := [.null, .null, .null, .null, .null, .null, .int (nI 0), .int (nI 0), .int (nI 0)]) F hW rfl iX0 tyX0 tyX0_ok tw_75 tw_76 tw_46 (fun j9 hj9 => by rcases (show j9 = 0 ∨ j9 = 1 ∨ j9 = 2 ∨ j9 = 3 ∨ j9 = 4 ∨ j9 = 5 ∨ j9 = 6 ∨ j9 = 7 ∨ j9 = 8 by omega) with rfl | rfl | rfl | rfl | rfl | rfl | rfl | rfl | rfl <;> rfl) (Nat.le_of_ble_eq_true rfl) (Nat.le_of_ble_eq_true rfl) dX4_init_27 (fun H hW => ?_)
  obtain ⟨μ5, eμ5⟩ : ∃ z9 : ME, z9 = va_up μ4 (10) (.inr (0, [.null, .null, .null, .null, .null, .null, .int (nI 0), .int (nI 0), .int (nI 0)])) := ⟨_, rfl⟩
  have hW : GS D T h0 s (11) μ5 H locs := by rw [eμ5]; exact hW
  have f1_5 : μ5 (1) = .inr (3, [.ref (h0 + (1 + 1)), .int (nI 0)]) := (congrFun eμ5 _).trans ((va_up_ne _ _ (by omega)).trans f1_4)
  have f2_5 : μ5 (2) = .inl (T 1, 64, .inl (fun _ => nI 0)) := (congrFun eμ5 _).trans ((va_up_ne _ _ (by omega)).trans f2_4)
  have f0_5 : μ5 (0) = .inr (4, [.ref (h0 + 1), .ref (h0 + 3), .null, .null, .null, .null, .int (nI 0), .long 0]) := (congrFun eμ5 _).trans ((va_up_ne _ _ (by omega)).trans f0_4)
  have f10_5 : μ5 (10) = .inr (0, [.null, .null, .null, .null, .null, .null, .int (nI 0), .int (nI 0), .int (nI 0)]) := by rw [eμ5, va_up_self]
  refine lv_dup hx hb dX4_init_30 rfl ?_
  refine gn_callN (host := RX4) F hW (g_X0_init l 10 f10_5) tw_79 F.2.2.2.2.1 tw_46 tw_78 rfl (by decide +kernel) ⟨(Nat.le_of_ble_eq_true rfl), (Nat.le_of_ble_eq_true rfl)⟩ hl (Nat.le_of_ble_eq_true rfl) dX4_init_31 ⟨(Nat.le_of_ble_eq_true rfl), (Nat.le_of_ble_eq_true rfl)⟩ (fun μr H locs q_μr hW => ?_)
  have f1_μr : μr 1 = .inr (3, [.ref (h0 + (1 + 1)), .int (nI 0)]) := (q_μr.1 1 (by omega)).trans f1_5
  have f2_μr : μr 2 = .inl (T 1, 64, .inl (fun _ => nI 0)) := (q_μr.1 2 (by omega)).trans f2_5
  have f0_μr : μr 0 = .inr (4, [.ref (h0 + 1), .ref (h0 + 3), .null, .null, .null, .null, .int (nI 0), .long 0]) := (q_μr.1 0 (by omega)).trans f0_5
  have hW : GS D T h0 s 17 μr H locs := hW
  refine gn_put (i := 0) F hin hW (by omega) (by omega) f0_μr rfl iX4 tyX4 tyX4_ok nmX4 2 (by decide) tw_150 rfl rfl rfl rfl (Nat.le_of_ble_eq_true rfl) dX4_init_34 (fun H locs hW => ?_)
  obtain ⟨μ6, eμ6⟩ : ∃ z9 : ME, z9 = va_up μr (0) (.inr (4, [.ref (h0 + 1), .ref (h0 + 3), .ref (h0 + 10), .null, .null, .null, .int (nI 0), .long 0])) := ⟨_, rfl⟩
  have hW : GS D T h0 s (17) μ6 H locs := by rw [eμ6]; exact hW
  have f1_6 : μ6 (1) = .inr (3, [.ref (h0 + (1 + 1)), .int (nI 0)]) := (congrFun eμ6 _).trans ((va_up_ne _ _ (by omega)).trans f1_μr)
  have f2_6 : μ6 (2) = .inl (T 1, 64, .inl (fun _ => nI 0)) := (congrFun eμ6 _).trans ((va_up_ne _ _ (by omega)).trans f2_μr)
  have f0_6 : μ6 (0) = .inr (4, [.ref (h0 + 1), .ref (h0 + 3), .ref (h0 + 10), .null, .null, .null, .int (nI 0), .long 0]) := by rw [eμ6, va_up_self]
  refine lv_aload_n hx hb dX4_init_37 rfl (lv_at hl 0 rfl) ?_
  refine gn_new (ci := 1) (fs := [.null, .int (nI 0), .int (nI 0)]) F hW rfl iX1 tyX1 tyX1_ok tw_110 tw_111 tw_47 (fun j9 hj9 => by rcases (show j9 = 0 ∨ j9 = 1 ∨ j9 = 2 by omega) with rfl | rfl | rfl <;> rfl) (Nat.le_of_ble_eq_true rfl) (Nat.le_of_ble_eq_true rfl) dX4_init_38 (fun H hW => ?_)
  obtain ⟨μ7, eμ7⟩ : ∃ z9 : ME, z9 = va_up μ6 (17) (.inr (1, [.null, .int (nI 0), .int (nI 0)])) := ⟨_, rfl⟩
  have hW : GS D T h0 s (18) μ7 H locs := by rw [eμ7]; exact hW
  have f1_7 : μ7 (1) = .inr (3, [.ref (h0 + (1 + 1)), .int (nI 0)]) := (congrFun eμ7 _).trans ((va_up_ne _ _ (by omega)).trans f1_6)
  have f2_7 : μ7 (2) = .inl (T 1, 64, .inl (fun _ => nI 0)) := (congrFun eμ7 _).trans ((va_up_ne _ _ (by omega)).trans f2_6)
  have f0_7 : μ7 (0) = .inr (4, [.ref (h0 + 1), .ref (h0 + 3), .ref (h0 + 10), .null, .null, .null, .int (nI 0), .long 0]) := (congrFun eμ7 _).trans ((va_up_ne _ _ (by omega)).trans f0_6)
  have f17_7 : μ7 (17) = .inr (1, [.null, .int (nI 0), .int (nI 0)]) := by rw [eμ7, va_up_self]
  refine lv_dup hx hb dX4_init_41 rfl ?_
  refine gn_call F hW (g_X1_init l 17 f17_7) tw_114 tw_112 tw_47 tw_113 rfl (by decide +kernel) ⟨(Nat.le_of_ble_eq_true rfl), (Nat.le_of_ble_eq_true rfl)⟩ hl (Nat.le_of_ble_eq_true rfl) dX4_init_42 ⟨(Nat.le_of_ble_eq_true rfl), (Nat.le_of_ble_eq_true rfl)⟩ (fun μp H locs q_μp hW => ?_)
  have f1_μp : μp 1 = .inr (3, [.ref (h0 + (1 + 1)), .int (nI 0)]) := (q_μp.1 1 (by omega)).trans f1_7
  have f2_μp : μp 2 = .inl (T 1, 64, .inl (fun _ => nI 0)) := (q_μp.1 2 (by omega)).trans f2_7
  have f0_μp : μp 0 = .inr (4, [.ref (h0 + 1), .ref (h0 + 3), .ref (h0 + 10), .null, .null, .null, .int (nI 0), .long 0]) := (q_μp.1 0 (by omega)).trans f0_7
  have hW : GS D T h0 s 117 μp H locs := hW
  refine gn_put (i := 0) F hin hW (by omega) (by omega) f0_μp rfl iX4 tyX4 tyX4_ok nmX4 3 (by decide) tw_151 rfl rfl rfl rfl (Nat.le_of_ble_eq_true rfl) dX4_init_45 (fun H locs hW => ?_)
  obtain ⟨μ8, eμ8⟩ : ∃ z9 : ME, z9 = va_up μp (0) (.inr (4, [.ref (h0 + 1), .ref (h0 + 3), .ref (h0 + 10), .ref (h0 + 17), .null, .null, .int (nI 0), .long 0])) := ⟨_, rfl⟩
  have hW : GS D T h0 s (117) μ8 H locs := by rw [eμ8]; exact hW
  have f1_8 : μ8 (1) = .inr (3, [.ref (h0 + (1 + 1)), .int (nI 0)]) := (congrFun eμ8 _).trans ((va_up_ne _ _ (by omega)).trans f1_μp)
  have f2_8 : μ8 (2) = .inl (T 1, 64, .inl (fun _ => nI 0)) := (congrFun eμ8 _).trans ((va_up_ne _ _ (by omega)).trans f2_μp)
  have f0_8 : μ8 (0) = .inr (4, [.ref (h0 + 1), .ref (h0 + 3), .ref (h0 + 10), .ref (h0 + 17), .null, .null, .int (nI 0), .long 0]) := by rw [eμ8, va_up_self]
  refine lv_aload_n hx hb dX4_init_48 rfl (lv_at hl 0 rfl) ?_
  refine gn_new (ci := 2) (fs := [.null, .null, .null, .int (nI 0)]) F hW rfl iX2 tyX2 tyX2_ok tw_129 tw_130 tw_48 (fun j9 hj9 => by rcases (show j9 = 0 ∨ j9 = 1 ∨ j9 = 2 ∨ j9 = 3 by omega) with rfl | rfl | rfl | rfl <;> rfl) (Nat.le_of_ble_eq_true rfl) (Nat.le_of_ble_eq_true rfl) dX4_init_49 (fun H hW => ?_)
  obtain ⟨μ9, eμ9⟩ : ∃ z9 : ME, z9 = va_up μ8 (117) (.inr (2, [.null, .null, .null, .int (nI 0)])) := ⟨_, rfl⟩
  have hW : GS D T h0 s (118) μ9 H locs := by rw [eμ9]; exact hW
  have f1_9 : μ9 (1) = .inr (3, [.ref (h0 + (1 + 1)), .int (nI 0)]) := (congrFun eμ9 _).trans ((va_up_ne _ _ (by omega)).trans f1_8)
  have f2_9 : μ9 (2) = .inl (T 1, 64, .inl (fun _ => nI 0)) := (congrFun eμ9 _).trans ((va_up_ne _ _ (by omega)).trans f2_8)
  have f0_9 : μ9 (0) = .inr (4, [.ref (h0 + 1), .ref (h0 + 3), .ref (h0 + 10), .ref (h0 + 17), .null, .null, .int (nI 0), .long 0]) := (congrFun eμ9 _).trans ((va_up_ne _ _ (by omega)).trans f0_8)
  have f117_9 : μ9 (117) = .inr (2, [.null, .null, .null, .int (nI 0)]) := by rw [eμ9, va_up_self]
  refine lv_dup hx hb dX4_init_52 rfl ?_
  refine gn_callN (host := RX4) F hW (g_X2_init l 117 f117_9) tw_133 F.2.2.2.2.2.1 tw_48 tw_132 rfl (by decide +kernel) ⟨(Nat.le_of_ble_eq_true rfl), (Nat.le_of_ble_eq_true rfl)⟩ hl (Nat.le_of_ble_eq_true rfl) dX4_init_53 ⟨(Nat.le_of_ble_eq_true rfl), (Nat.le_of_ble_eq_true rfl)⟩ (fun μs H locs q_μs hW => ?_)
  have f1_μs : μs 1 = .inr (3, [.ref (h0 + (1 + 1)), .int (nI 0)]) := (q_μs.1 1 (by omega)).trans f1_9
  have f2_μs : μs 2 = .inl (T 1, 64, .inl (fun _ => nI 0)) := (q_μs.1 2 (by omega)).trans f2_9
  have f0_μs : μs 0 = .inr (4, [.ref (h0 + 1), .ref (h0 + 3), .ref (h0 + 10), .ref (h0 + 17), .null, .null, .int (nI 0), .long 0]) := (q_μs.1 0 (by omega)).trans f0_9
  have hW : GS D T h0 s 121 μs H locs := hW
  refine gn_put (i := 0) F hin hW (by omega) (by omega) f0_μs rfl iX4 tyX4 tyX4_ok nmX4 4 (by decide) tw_152 rfl rfl rfl rfl (Nat.le_of_ble_eq_true rfl) dX4_init_56 (fun H locs hW => ?_)
  obtain ⟨μ10, eμ10⟩ : ∃ z9 : ME, z9 = va_up μs (0) (.inr (4, [.ref (h0 + 1), .ref (h0 + 3), .ref (h0 + 10), .ref (h0 + 17), .ref (h0 + 117), .null, .int (nI 0), .long 0])) := ⟨_, rfl⟩
  have hW : GS D T h0 s (121) μ10 H locs := by rw [eμ10]; exact hW
  have f1_10 : μ10 (1) = .inr (3, [.ref (h0 + (1 + 1)), .int (nI 0)]) := (congrFun eμ10 _).trans ((va_up_ne _ _ (by omega)).trans f1_μs)
  have f2_10 : μ10 (2) = .inl (T 1, 64, .inl (fun _ => nI 0)) := (congrFun eμ10 _).trans ((va_up_ne _ _ (by omega)).trans f2_μs)
  have f117_10 : μ10 (117) = .inr (2, [.ref (h0 + (117 + 1)), .ref (h0 + (117 + 2)), .ref (h0 + (117 + 3)), .int (nI 0)]) := (congrFun eμ10 _).trans ((va_up_ne _ _ (by omega)).trans q_μs.2.1)
  have f118_10 : μ10 (118) = .inl (T 0, 6, .inl (fun _ => nI 0)) := (congrFun eμ10 _).trans ((va_up_ne _ _ (by omega)).trans q_μs.2.2.1)
  have f119_10 : μ10 (119) = .inl (T 0, 6, .inl (fun _ => nI 0)) := (congrFun eμ10 _).trans ((va_up_ne _ _ (by omega)).trans q_μs.2.2.2.1)
  have f120_10 : μ10 (120) = .inl (T 0, 6, .inl (fun _ => nI 0)) := (congrFun eμ10 _).trans ((va_up_ne _ _ (by omega)).trans q_μs.2.2.2.2)
  have f0_10 : μ10 (0) = .inr (4, [.ref (h0 + 1), .ref (h0 + 3), .ref (h0 + 10), .ref (h0 + 17), .ref (h0 + 117), .null, .int (nI 0), .long 0]) := by rw [eμ10, va_up_self]
  refine lv_aload_n hx hb dX4_init_59 rfl (lv_at hl 0 rfl) ?_
  refine lv_iconst (v := nI 2) hx hb dX4_init_60 (by decide) ?_
  refine gn_newq F hW tw_75 (Nat.le_of_ble_eq_true rfl) (by decide) (Nat.le_of_ble_eq_true rfl) (Nat.le_of_ble_eq_true rfl) dX4_init_61 (fun H hW => ?_)
  obtain ⟨μ11, eμ11⟩ : ∃ z9 : ME, z9 = va_up μ10 (121) (.inl (T 3, 2, .inr (.inr (.inr (.inr (fun _ => none)))))) := ⟨_, rfl⟩
  have hW : GS D T h0 s (122) μ11 H locs := by rw [eμ11]; exact hW
  have f1_11 : μ11 (1) = .inr (3, [.ref (h0 + (1 + 1)), .int (nI 0)]) := (congrFun eμ11 _).trans ((va_up_ne _ _ (by omega)).trans f1_10)
  have f2_11 : μ11 (2) = .inl (T 1, 64, .inl (fun _ => nI 0)) := (congrFun eμ11 _).trans ((va_up_ne _ _ (by omega)).trans f2_10)
  have f117_11 : μ11 (117) = .inr (2, [.ref (h0 + (117 + 1)), .ref (h0 + (117 + 2)), .ref (h0 + (117 + 3)), .int (nI 0)]) := (congrFun eμ11 _).trans ((va_up_ne _ _ (by omega)).trans f117_10)
  have f118_11 : μ11 (118) = .inl (T 0, 6, .inl (fun _ => nI 0)) := (congrFun eμ11 _).trans ((va_up_ne _ _ (by omega)).trans f118_10)
  have f119_11 : μ11 (119) = .inl (T 0, 6, .inl (fun _ => nI 0)) := (congrFun eμ11 _).trans ((va_up_ne _ _ (by omega)).trans f119_10)
  have f120_11 : μ11 (120) = .inl (T 0, 6, .inl (fun _ => nI 0)) := (congrFun eμ11 _).trans ((va_up_ne _ _ (by omega)).trans f120_10)
  have f0_11 : μ11 (0) = .inr (4, [.ref (h0 + 1), .ref (h0 + 3), .ref (h0 + 10), .ref (h0 + 17), .ref (h0 + 117), .null, .int (nI 0), .long 0]) := (congrFun eμ11 _).trans ((va_up_ne _ _ (by omega)).trans f0_10)
  have f121_11 : μ11 (121) = .inl (T 3, 2, .inr (.inr (.inr (.inr (fun _ => none))))) := by rw [eμ11, va_up_self]
  refine gn_put (i := 0) F hin hW (by omega) (by omega) f0_11 rfl iX4 tyX4 tyX4_ok nmX4 5 (by decide) tw_153 rfl rfl rfl rfl (Nat.le_of_ble_eq_true rfl) dX4_init_64 (fun H locs hW => ?_)
  obtain ⟨μ12, eμ12⟩ : ∃ z9 : ME, z9 = va_up μ11 (0) (.inr (4, [.ref (h0 + 1), .ref (h0 + 3), .ref (h0 + 10), .ref (h0 + 17), .ref (h0 + 117), .ref (h0 + 121), .int (nI 0), .long 0])) := ⟨_, rfl⟩
  have hW : GS D T h0 s (122) μ12 H locs := by rw [eμ12]; exact hW
  have f1_12 : μ12 (1) = .inr (3, [.ref (h0 + (1 + 1)), .int (nI 0)]) := (congrFun eμ12 _).trans ((va_up_ne _ _ (by omega)).trans f1_11)
  have f2_12 : μ12 (2) = .inl (T 1, 64, .inl (fun _ => nI 0)) := (congrFun eμ12 _).trans ((va_up_ne _ _ (by omega)).trans f2_11)
  have f117_12 : μ12 (117) = .inr (2, [.ref (h0 + (117 + 1)), .ref (h0 + (117 + 2)), .ref (h0 + (117 + 3)), .int (nI 0)]) := (congrFun eμ12 _).trans ((va_up_ne _ _ (by omega)).trans f117_11)
  have f118_12 : μ12 (118) = .inl (T 0, 6, .inl (fun _ => nI 0)) := (congrFun eμ12 _).trans ((va_up_ne _ _ (by omega)).trans f118_11)
  have f119_12 : μ12 (119) = .inl (T 0, 6, .inl (fun _ => nI 0)) := (congrFun eμ12 _).trans ((va_up_ne _ _ (by omega)).trans f119_11)
  have f120_12 : μ12 (120) = .inl (T 0, 6, .inl (fun _ => nI 0)) := (congrFun eμ12 _).trans ((va_up_ne _ _ (by omega)).trans f120_11)
  have f121_12 : μ12 (121) = .inl (T 3, 2, .inr (.inr (.inr (.inr (fun _ => none))))) := (congrFun eμ12 _).trans ((va_up_ne _ _ (by omega)).trans f121_11)
  have f0_12 : μ12 (0) = .inr (4, [.ref (h0 + 1), .ref (h0 + 3), .ref (h0 + 10), .ref (h0 + 17), .ref (h0 + 117), .ref (h0 + 121), .int (nI 0), .long 0]) := by rw [eμ12, va_up_self]
  refine lv_iconst (v := nI 0) hx hb dX4_init_67 (by decide) ?_
  refine lv_istore_n (lv' := [(1, .int (nI 0)), (0, .ref (h0 + 0))]) hx hb dX4_init_68 rfl hl (by decide) rfl (fun ls hl => ?_)
  refine lv_iload_n hx hb dX4_init_69 rfl (lv_at hl 0 rfl) ?_
  refine lv_iconst (v := nI 2) hx hb dX4_init_70 (by decide) ?_
  refine lv_icmp_ge (tgt := 93) hx hb dX4_init_71 (by decide) (fun q => absurd q (by decide)) (fun _ => ?_)
  refine lv_aload_n hx hb dX4_init_74 rfl (lv_at hl 1 rfl) ?_
  refine gn_get (i := 0) F hW (by omega) f0_12 rfl iX4 5 (by decide) tw_153 rfl dX4_init_75 ?_
  refine lv_iload_n hx hb dX4_init_78 rfl (lv_at hl 0 rfl) ?_
  refine gn_new (ci := 0) (fs := [.null, .null, .null, .null, .null, .null, .int (nI 0), .int (nI 0), .int (nI 0)]) F hW rfl iX0 tyX0 tyX0_ok tw_75 tw_76 tw_46 (fun j9 hj9 => by rcases (show j9 = 0 ∨ j9 = 1 ∨ j9 = 2 ∨ j9 = 3 ∨ j9 = 4 ∨ j9 = 5 ∨ j9 = 6 ∨ j9 = 7 ∨ j9 = 8 by omega) with rfl | rfl | rfl | rfl | rfl | rfl | rfl | rfl | rfl <;> rfl) (Nat.le_of_ble_eq_true rfl) (Nat.le_of_ble_eq_true rfl) dX4_init_79 (fun H hW => ?_)
  obtain ⟨μ13, eμ13⟩ : ∃ z9 : ME, z9 = va_up μ12 (122) (.inr (0, [.null, .null, .null, .null, .null, .null, .int (nI 0), .int (nI 0), .int (nI 0)])) := ⟨_, rfl⟩
  have hW : GS D T h0 s (123) μ13 H locs := by rw [eμ13]; exact hW
  have f1_13 : μ13 (1) = .inr (3, [.ref (h0 + (1 + 1)), .int (nI 0)]) := (congrFun eμ13 _).trans ((va_up_ne _ _ (by omega)).trans f1_12)
  have f2_13 : μ13 (2) = .inl (T 1, 64, .inl (fun _ => nI 0)) := (congrFun eμ13 _).trans ((va_up_ne _ _ (by omega)).trans f2_12)
  have f117_13 : μ13 (117) = .inr (2, [.ref (h0 + (117 + 1)), .ref (h0 + (117 + 2)), .ref (h0 + (117 + 3)), .int (nI 0)]) := (congrFun eμ13 _).trans ((va_up_ne _ _ (by omega)).trans f117_12)
  have f118_13 : μ13 (118) = .inl (T 0, 6, .inl (fun _ => nI 0)) := (congrFun eμ13 _).trans ((va_up_ne _ _ (by omega)).trans f118_12)
  have f119_13 : μ13 (119) = .inl (T 0, 6, .inl (fun _ => nI 0)) := (congrFun eμ13 _).trans ((va_up_ne _ _ (by omega)).trans f119_12)
  have f120_13 : μ13 (120) = .inl (T 0, 6, .inl (fun _ => nI 0)) := (congrFun eμ13 _).trans ((va_up_ne _ _ (by omega)).trans f120_12)
  have f121_13 : μ13 (121) = .inl (T 3, 2, .inr (.inr (.inr (.inr (fun _ => none))))) := (congrFun eμ13 _).trans ((va_up_ne _ _ (by omega)).trans f121_12)
  have f0_13 : μ13 (0) = .inr (4, [.ref (h0 + 1), .ref (h0 + 3), .ref (h0 + 10), .ref (h0 + 17), .ref (h0 + 117), .ref (h0 + 121), .int (nI 0), .long 0]) := (congrFun eμ13 _).trans ((va_up_ne _ _ (by omega)).trans f0_12)
  have f122_13 : μ13 (122) = .inr (0, [.null, .null, .null, .null, .null, .null, .int (nI 0), .int (nI 0), .int (nI 0)]) := by rw [eμ13, va_up_self]
  refine lv_dup hx hb dX4_init_82 rfl ?_
  refine gn_callN (host := RX4) F hW (g_X0_init l 122 f122_13) tw_79 F.2.2.2.2.1 tw_46 tw_78 rfl (by decide +kernel) ⟨(Nat.le_of_ble_eq_true rfl), (Nat.le_of_ble_eq_true rfl)⟩ hl (Nat.le_of_ble_eq_true rfl) dX4_init_83 ⟨(Nat.le_of_ble_eq_true rfl), (Nat.le_of_ble_eq_true rfl)⟩ (fun μk0 H locs q_μk0 hW => ?_)
  have f1_μk0 : μk0 1 = .inr (3, [.ref (h0 + (1 + 1)), .int (nI 0)]) := (q_μk0.1 1 (by omega)).trans f1_13
  have f2_μk0 : μk0 2 = .inl (T 1, 64, .inl (fun _ => nI 0)) := (q_μk0.1 2 (by omega)).trans f2_13
  have f117_μk0 : μk0 117 = .inr (2, [.ref (h0 + (117 + 1)), .ref (h0 + (117 + 2)), .ref (h0 + (117 + 3)), .int (nI 0)]) := (q_μk0.1 117 (by omega)).trans f117_13
  have f118_μk0 : μk0 118 = .inl (T 0, 6, .inl (fun _ => nI 0)) := (q_μk0.1 118 (by omega)).trans f118_13
  have f119_μk0 : μk0 119 = .inl (T 0, 6, .inl (fun _ => nI 0)) := (q_μk0.1 119 (by omega)).trans f119_13
  have f120_μk0 : μk0 120 = .inl (T 0, 6, .inl (fun _ => nI 0)) := (q_μk0.1 120 (by omega)).trans f120_13
  have f121_μk0 : μk0 121 = .inl (T 3, 2, .inr (.inr (.inr (.inr (fun _ => none))))) := (q_μk0.1 121 (by omega)).trans f121_13
  have f0_μk0 : μk0 0 = .inr (4, [.ref (h0 + 1), .ref (h0 + 3), .ref (h0 + 10), .ref (h0 + 17), .ref (h0 + 117), .ref (h0 + 121), .int (nI 0), .long 0]) := (q_μk0.1 0 (by omega)).trans f0_13
  have hW : GS D T h0 s 129 μk0 H locs := hW
  refine gn_ast (i := 121) (j := 0) (q := 122) F hW (by omega) (by omega) f121_μk0 (by omega) q_μk0.2.1 (by omega) (by decide) dX4_init_86 (fun H locs hW => ?_)
  obtain ⟨μ14, eμ14⟩ : ∃ z9 : ME, z9 = va_up μk0 (121) (.inl (T 3, 2, .inr (.inr (.inr (.inr (va_up (fun _ => none) 0 (some (h0 + 122)))))))) := ⟨_, rfl⟩
  have hW : GS D T h0 s (129) μ14 H locs := by rw [eμ14]; exact hW
  have f1_14 : μ14 (1) = .inr (3, [.ref (h0 + (1 + 1)), .int (nI 0)]) := (congrFun eμ14 _).trans ((va_up_ne _ _ (by omega)).trans f1_μk0)
  have f2_14 : μ14 (2) = .inl (T 1, 64, .inl (fun _ => nI 0)) := (congrFun eμ14 _).trans ((va_up_ne _ _ (by omega)).trans f2_μk0)
  have f117_14 : μ14 (117) = .inr (2, [.ref (h0 + (117 + 1)), .ref (h0 + (117 + 2)), .ref (h0 + (117 + 3)), .int (nI 0)]) := (congrFun eμ14 _).trans ((va_up_ne _ _ (by omega)).trans f117_μk0)
  have f118_14 : μ14 (118) = .inl (T 0, 6, .inl (fun _ => nI 0)) := (congrFun eμ14 _).trans ((va_up_ne _ _ (by omega)).trans f118_μk0)
  have f119_14 : μ14 (119) = .inl (T 0, 6, .inl (fun _ => nI 0)) := (congrFun eμ14 _).trans ((va_up_ne _ _ (by omega)).trans f119_μk0)
  have f120_14 : μ14 (120) = .inl (T 0, 6, .inl (fun _ => nI 0)) := (congrFun eμ14 _).trans ((va_up_ne _ _ (by omega)).trans f120_μk0)
  have f0_14 : μ14 (0) = .inr (4, [.ref (h0 + 1), .ref (h0 + 3), .ref (h0 + 10), .ref (h0 + 17), .ref (h0 + 117), .ref (h0 + 121), .int (nI 0), .long 0]) := (congrFun eμ14 _).trans ((va_up_ne _ _ (by omega)).trans f0_μk0)
  have f121_14 : μ14 (121) = .inl (T 3, 2, .inr (.inr (.inr (.inr (va_up (fun _ => none) 0 (some (h0 + 122))))))) := by rw [eμ14, va_up_self]
  refine lv_iinc (v := nI (0 + 1)) (lv' := [(1, .int (nI (0 + 1))), (0, .ref (h0 + 0))]) hx hb dX4_init_87 hl (k := 0) rfl (nI_add _ _) (by decide) rfl (fun ls hl => ?_)
  refine lv_goto (tgt := 69) hx hb dX4_init_90 (by decide) ?_
  refine lv_iload_n hx hb dX4_init_69 rfl (lv_at hl 0 rfl) ?_
  refine lv_iconst (v := nI 2) hx hb dX4_init_70 (by decide) ?_
  refine lv_icmp_ge (tgt := 93) hx hb dX4_init_71 (by decide) (fun q => absurd q (by decide)) (fun _ => ?_)
  refine lv_aload_n hx hb dX4_init_74 rfl (lv_at hl 1 rfl) ?_
  refine gn_get (i := 0) F hW (by omega) f0_14 rfl iX4 5 (by decide) tw_153 rfl dX4_init_75 ?_
  refine lv_iload_n hx hb dX4_init_78 rfl (lv_at hl 0 rfl) ?_
  refine gn_new (ci := 0) (fs := [.null, .null, .null, .null, .null, .null, .int (nI 0), .int (nI 0), .int (nI 0)]) F hW rfl iX0 tyX0 tyX0_ok tw_75 tw_76 tw_46 (fun j9 hj9 => by rcases (show j9 = 0 ∨ j9 = 1 ∨ j9 = 2 ∨ j9 = 3 ∨ j9 = 4 ∨ j9 = 5 ∨ j9 = 6 ∨ j9 = 7 ∨ j9 = 8 by omega) with rfl | rfl | rfl | rfl | rfl | rfl | rfl | rfl | rfl <;> rfl) (Nat.le_of_ble_eq_true rfl) (Nat.le_of_ble_eq_true rfl) dX4_init_79 (fun H hW => ?_)
  obtain ⟨μ15, eμ15⟩ : ∃ z9 : ME, z9 = va_up μ14 (129) (.inr (0, [.null, .null, .null, .null, .null, .null, .int (nI 0), .int (nI 0), .int (nI 0)])) := ⟨_, rfl⟩
  have hW : GS D T h0 s (130) μ15 H locs := by rw [eμ15]; exact hW
  have f1_15 : μ15 (1) = .inr (3, [.ref (h0 + (1 + 1)), .int (nI 0)]) := (congrFun eμ15 _).trans ((va_up_ne _ _ (by omega)).trans f1_14)
  have f2_15 : μ15 (2) = .inl (T 1, 64, .inl (fun _ => nI 0)) := (congrFun eμ15 _).trans ((va_up_ne _ _ (by omega)).trans f2_14)
  have f117_15 : μ15 (117) = .inr (2, [.ref (h0 + (117 + 1)), .ref (h0 + (117 + 2)), .ref (h0 + (117 + 3)), .int (nI 0)]) := (congrFun eμ15 _).trans ((va_up_ne _ _ (by omega)).trans f117_14)
  have f118_15 : μ15 (118) = .inl (T 0, 6, .inl (fun _ => nI 0)) := (congrFun eμ15 _).trans ((va_up_ne _ _ (by omega)).trans f118_14)
  have f119_15 : μ15 (119) = .inl (T 0, 6, .inl (fun _ => nI 0)) := (congrFun eμ15 _).trans ((va_up_ne _ _ (by omega)).trans f119_14)
  have f120_15 : μ15 (120) = .inl (T 0, 6, .inl (fun _ => nI 0)) := (congrFun eμ15 _).trans ((va_up_ne _ _ (by omega)).trans f120_14)
  have f0_15 : μ15 (0) = .inr (4, [.ref (h0 + 1), .ref (h0 + 3), .ref (h0 + 10), .ref (h0 + 17), .ref (h0 + 117), .ref (h0 + 121), .int (nI 0), .long 0]) := (congrFun eμ15 _).trans ((va_up_ne _ _ (by omega)).trans f0_14)
  have f121_15 : μ15 (121) = .inl (T 3, 2, .inr (.inr (.inr (.inr (va_up (fun _ => none) 0 (some (h0 + 122))))))) := (congrFun eμ15 _).trans ((va_up_ne _ _ (by omega)).trans f121_14)
  have f129_15 : μ15 (129) = .inr (0, [.null, .null, .null, .null, .null, .null, .int (nI 0), .int (nI 0), .int (nI 0)]) := by rw [eμ15, va_up_self]
  refine lv_dup hx hb dX4_init_82 rfl ?_
  refine gn_callN (host := RX4) F hW (g_X0_init l 129 f129_15) tw_79 F.2.2.2.2.1 tw_46 tw_78 rfl (by decide +kernel) ⟨(Nat.le_of_ble_eq_true rfl), (Nat.le_of_ble_eq_true rfl)⟩ hl (Nat.le_of_ble_eq_true rfl) dX4_init_83 ⟨(Nat.le_of_ble_eq_true rfl), (Nat.le_of_ble_eq_true rfl)⟩ (fun μk1 H locs q_μk1 hW => ?_)
  have f1_μk1 : μk1 1 = .inr (3, [.ref (h0 + (1 + 1)), .int (nI 0)]) := (q_μk1.1 1 (by omega)).trans f1_15
  have f2_μk1 : μk1 2 = .inl (T 1, 64, .inl (fun _ => nI 0)) := (q_μk1.1 2 (by omega)).trans f2_15
  have f117_μk1 : μk1 117 = .inr (2, [.ref (h0 + (117 + 1)), .ref (h0 + (117 + 2)), .ref (h0 + (117 + 3)), .int (nI 0)]) := (q_μk1.1 117 (by omega)).trans f117_15
  have f118_μk1 : μk1 118 = .inl (T 0, 6, .inl (fun _ => nI 0)) := (q_μk1.1 118 (by omega)).trans f118_15
  have f119_μk1 : μk1 119 = .inl (T 0, 6, .inl (fun _ => nI 0)) := (q_μk1.1 119 (by omega)).trans f119_15
  have f120_μk1 : μk1 120 = .inl (T 0, 6, .inl (fun _ => nI 0)) := (q_μk1.1 120 (by omega)).trans f120_15
  have f0_μk1 : μk1 0 = .inr (4, [.ref (h0 + 1), .ref (h0 + 3), .ref (h0 + 10), .ref (h0 + 17), .ref (h0 + 117), .ref (h0 + 121), .int (nI 0), .long 0]) := (q_μk1.1 0 (by omega)).trans f0_15
  have f121_μk1 : μk1 121 = .inl (T 3, 2, .inr (.inr (.inr (.inr (va_up (fun _ => none) 0 (some (h0 + 122))))))) := (q_μk1.1 121 (by omega)).trans f121_15
  have hW : GS D T h0 s 136 μk1 H locs := hW
  refine gn_ast (i := 121) (j := 1) (q := 129) F hW (by omega) (by omega) f121_μk1 (by omega) q_μk1.2.1 (by omega) (by decide) dX4_init_86 (fun H locs hW => ?_)
  obtain ⟨μ16, eμ16⟩ : ∃ z9 : ME, z9 = va_up μk1 (121) (.inl (T 3, 2, .inr (.inr (.inr (.inr (va_up (va_up (fun _ => none) 0 (some (h0 + 122))) 1 (some (h0 + 129)))))))) := ⟨_, rfl⟩
  have hW : GS D T h0 s (136) μ16 H locs := by rw [eμ16]; exact hW
  have f1_16 : μ16 (1) = .inr (3, [.ref (h0 + (1 + 1)), .int (nI 0)]) := (congrFun eμ16 _).trans ((va_up_ne _ _ (by omega)).trans f1_μk1)
  have f2_16 : μ16 (2) = .inl (T 1, 64, .inl (fun _ => nI 0)) := (congrFun eμ16 _).trans ((va_up_ne _ _ (by omega)).trans f2_μk1)
  have f117_16 : μ16 (117) = .inr (2, [.ref (h0 + (117 + 1)), .ref (h0 + (117 + 2)), .ref (h0 + (117 + 3)), .int (nI 0)]) := (congrFun eμ16 _).trans ((va_up_ne _ _ (by omega)).trans f117_μk1)
  have f118_16 : μ16 (118) = .inl (T 0, 6, .inl (fun _ => nI 0)) := (congrFun eμ16 _).trans ((va_up_ne _ _ (by omega)).trans f118_μk1)
  have f119_16 : μ16 (119) = .inl (T 0, 6, .inl (fun _ => nI 0)) := (congrFun eμ16 _).trans ((va_up_ne _ _ (by omega)).trans f119_μk1)
  have f120_16 : μ16 (120) = .inl (T 0, 6, .inl (fun _ => nI 0)) := (congrFun eμ16 _).trans ((va_up_ne _ _ (by omega)).trans f120_μk1)
  have f0_16 : μ16 (0) = .inr (4, [.ref (h0 + 1), .ref (h0 + 3), .ref (h0 + 10), .ref (h0 + 17), .ref (h0 + 117), .ref (h0 + 121), .int (nI 0), .long 0]) := (congrFun eμ16 _).trans ((va_up_ne _ _ (by omega)).trans f0_μk1)
  have f121_16 : μ16 (121) = .inl (T 3, 2, .inr (.inr (.inr (.inr (va_up (va_up (fun _ => none) 0 (some (h0 + 122))) 1 (some (h0 + 129))))))) := by rw [eμ16, va_up_self]
  refine lv_iinc (v := nI (1 + 1)) (lv' := [(1, .int (nI (1 + 1))), (0, .ref (h0 + 0))]) hx hb dX4_init_87 hl (k := 0) rfl (nI_add _ _) (by decide) rfl (fun ls hl => ?_)
  refine lv_goto (tgt := 69) hx hb dX4_init_90 (by decide) ?_
  refine lv_iload_n hx hb dX4_init_69 rfl (lv_at hl 0 rfl) ?_
  refine lv_iconst (v := nI 2) hx hb dX4_init_70 (by decide) ?_
  refine lv_icmp_ge (tgt := 93) hx hb dX4_init_71 (by decide) (fun _ => ?_) (fun q => absurd (show nI 2 ≤ nI (1 + 1) by decide) q)
  have cn : laneR (gx D T h0 149) μ16 3 L0 := laneR_in (lane0 q_μn.2) (fun z h1 h2 => by rw [eμ16, va_up_ne _ _ (by omega)]; rw [q_μk1.1 z (by omega)]; rw [eμ15, va_up_ne _ _ (by omega)]; rw [eμ14, va_up_ne _ _ (by omega)]; rw [q_μk0.1 z (by omega)]; rw [eμ13, va_up_ne _ _ (by omega)]; rw [eμ12, va_up_ne _ _ (by omega)]; rw [eμ11, va_up_ne _ _ (by omega)]; rw [eμ10, va_up_ne _ _ (by omega)]; rw [q_μs.1 z (by omega)]; rw [eμ9, va_up_ne _ _ (by omega)]; rw [eμ8, va_up_ne _ _ (by omega)]; rw [q_μp.1 z (by omega)]; rw [eμ7, va_up_ne _ _ (by omega)]; rw [eμ6, va_up_ne _ _ (by omega)]; rw [q_μr.1 z (by omega)]; rw [eμ5, va_up_ne _ _ (by omega)]; rw [eμ4, va_up_ne _ _ (by omega)])
  have cr : laneR (gx D T h0 149) μ16 10 L0 := laneR_in (lane0 q_μr.2) (fun z h1 h2 => by rw [eμ16, va_up_ne _ _ (by omega)]; rw [q_μk1.1 z (by omega)]; rw [eμ15, va_up_ne _ _ (by omega)]; rw [eμ14, va_up_ne _ _ (by omega)]; rw [q_μk0.1 z (by omega)]; rw [eμ13, va_up_ne _ _ (by omega)]; rw [eμ12, va_up_ne _ _ (by omega)]; rw [eμ11, va_up_ne _ _ (by omega)]; rw [eμ10, va_up_ne _ _ (by omega)]; rw [q_μs.1 z (by omega)]; rw [eμ9, va_up_ne _ _ (by omega)]; rw [eμ8, va_up_ne _ _ (by omega)]; rw [q_μp.1 z (by omega)]; rw [eμ7, va_up_ne _ _ (by omega)]; rw [eμ6, va_up_ne _ _ (by omega)])
  have ck0 : laneR (gx D T h0 149) μ16 122 L0 := laneR_in (lane0 q_μk0.2) (fun z h1 h2 => by rw [eμ16, va_up_ne _ _ (by omega)]; rw [q_μk1.1 z (by omega)]; rw [eμ15, va_up_ne _ _ (by omega)]; rw [eμ14, va_up_ne _ _ (by omega)])
  have ck1 : laneR (gx D T h0 149) μ16 129 L0 := laneR_in (lane0 q_μk1.2) (fun z h1 h2 => by rw [eμ16, va_up_ne _ _ (by omega)])
  have cp : pastR (gx D T h0 149) μ16 17 0 (fun _ => L0) := pastR_in (q_μp.2) (fun z h1 h2 => by rw [eμ16, va_up_ne _ _ (by omega)]; rw [q_μk1.1 z (by omega)]; rw [eμ15, va_up_ne _ _ (by omega)]; rw [eμ14, va_up_ne _ _ (by omega)]; rw [q_μk0.1 z (by omega)]; rw [eμ13, va_up_ne _ _ (by omega)]; rw [eμ12, va_up_ne _ _ (by omega)]; rw [eμ11, va_up_ne _ _ (by omega)]; rw [eμ10, va_up_ne _ _ (by omega)]; rw [q_μs.1 z (by omega)]; rw [eμ9, va_up_ne _ _ (by omega)]; rw [eμ8, va_up_ne _ _ (by omega)])
  exact gn_ret (N := 0 + 1 + 135) (k := 135) (sl := 917) F hr hlk hW ⟨f0_16, ⟨_, f1_16, f2_16, fun i hi => absurd (show i < 0 from hi) (by omega)⟩, cn, ⟨L0, cr⟩, cp, ⟨_, _, _, f117_16, f118_16, f119_16, f120_16, fun i hi => absurd (show i < 0 from hi) (by omega)⟩, ⟨⟨_, f121_16, fun j hj => by rcases (show j = 0 ∨ j = 1 by omega) with rfl | rfl <;> rfl⟩, fun j hj => by rcases (show j = 0 ∨ j = 1 by omega) with rfl | rfl; exact ⟨L0, ck0⟩; exact ⟨L0, ck1⟩, fun j hj q => absurd (show Nat.testBit 0 j = true from q) (by simp)⟩⟩ dX4_init_93
