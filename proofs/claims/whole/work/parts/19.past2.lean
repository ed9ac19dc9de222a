/-- acts to be undone, the newest first -/
def pushP (PN : Nat → LN) (L : LN) : Nat → LN := fun k => if k = 0 then L else PN (k - 1)
def pastR (cx : CX) (μ : ME) (b z : Nat) (PN : Nat → LN) : Prop := ∃ (g : Nat → Option Nat) (fi : Nat), μ b = .inr (1, [.ref (xa cx (b + 1)), .int (nI fi), .int (nI z)]) ∧ μ (b + 1) = .inl (xT cx 3, 14, .inr (.inr (.inr (.inr g)))) ∧ (∀ j, j < 14 → g j = some (xa cx (b + 2 + 7 * j))) ∧ (∀ j, j < 14 → ∃ L, laneR cx μ (b + 2 + 7 * j) L) ∧ (∀ k, k < z → laneR cx μ (b + 2 + 7 * ((fi + z + 13 - k) % 14)) (PN k)) ∧ fi < 14 ∧ z ≤ 14
theorem pastR_off {cx : CX} {μ μ1 : ME} {b a m z : Nat} {PN : Nat → LN} (h : pastR cx μ b z PN) (ho : off a m μ μ1) (hd : a + m ≤ b ∨ b + 100 ≤ a) : pastR cx μ1 b z PN := by
  obtain ⟨g, fi, h0, h1, h2, h3, h4, h5, h6⟩ := h
  refine ⟨g, fi, (ho _ (by omega)).trans h0, (ho _ (by omega)).trans h1, h2, fun j hj => ?_, fun k hk => laneR_off (h4 k hk) ho (by omega), h5, h6⟩
  obtain ⟨L, hL⟩ := h3 j hj
  exact ⟨L, laneR_off hL ho (by omega)⟩

set_option maxHeartbeats 4000000 in
set_option maxRecDepth 100000 in
theorem c_psize {cx : CX} (hI : xI cx) (l : Launch) {μ : ME} {b z : Nat} {PN : Nat → LN} (hb100 : b + 100 ≤ xN cx) (hP : pastR cx μ b z PN) : MT cx l yX1_size cX1_size 1 (some .int) 0 0 [.ref (xa cx b)] μ (Pi cx μ (nI z)) := by
  refine mt_of hI (by decide) (Nat.le_of_ble_eq_true rfl) ?_
  intro p e s m below meth c ls F hr hlk hW hl
  have hx := F.1.1
  have hb := F.1.2.1
  have hts := F.1.2.2.2.2
  obtain ⟨g, fi, h0, h1, hg, hsh, hla, hfi, hz14⟩ := id hP
  have hl : lv_has ls 1 [(0, .ref (xa cx b))] := hl
  refine lv_aload_n hx hb dX1_size_0 rfl (lv_at hl 0 rfl) ?_
  refine nv_get F hW (by omega) h0 rfl iX1 2 (by decide) tw_121 rfl dX1_size_1 ?_
  exact rt_ip F hr hlk hW rfl rfl dX1_size_4

set_option maxHeartbeats 4000000 in
set_option maxRecDepth 100000 in
theorem c_pclear {cx : CX} (hI : xI cx) (l : Launch) {μ : ME} {b z : Nat} {PN : Nat → LN} (hb100 : b + 100 ≤ xN cx) (hP : pastR cx μ b z PN) : MT cx l yX1_clear cX1_clear 1 none 0 0 [.ref (xa cx b)] μ (Qv cx (fun μ1 => pastR cx μ1 b 0 PN ∧ off b 100 μ μ1)) := by
  refine mt_of hI (by decide) (Nat.le_of_ble_eq_true rfl) ?_
  intro p e s m below meth c ls F hr hlk hW hl
  have hx := F.1.1
  have hb := F.1.2.1
  have hts := F.1.2.2.2.2
  obtain ⟨g, fi, h0, h1, hg, hsh, hla, hfi, hz14⟩ := id hP
  have hl : lv_has ls 1 [(0, .ref (xa cx b))] := hl
  refine lv_aload_n hx hb dX1_clear_0 rfl (lv_at hl 0 rfl) ?_
  refine lv_iconst (v := nI 0) hx hb dX1_clear_1 (by decide) ?_
  refine nv_put F hW (by omega) h0 rfl iX1 tyX1 tyX1_ok nmX1 2 (by decide) tw_121 rfl rfl rfl (Nat.le_of_ble_eq_true rfl) dX1_clear_2 (fun H locs hW => ?_)
  obtain ⟨μ1, eμ1⟩ : ∃ zz9 : ME, zz9 = va_up μ b (.inr (1, [.ref (xa cx (b + 1)), .int (nI fi), .int (nI 0)])) := ⟨_, rfl⟩
  have hW : St cx s μ1 H locs := by rw [eμ1]; exact hW
  have hb_1 : μ1 b = .inr (1, [.ref (xa cx (b + 1)), .int (nI fi), .int (nI 0)]) := by rw [eμ1, va_up_self]
  have hb_1_1 := (congrFun eμ1 (b + 1)).trans ((va_up_ne _ _ (by omega)).trans h1)
  have hoc : ∀ i, ¬ i = b → μ1 i = μ i := fun i hi => by rw [eμ1, va_up_ne _ _ hi]
  exact rt_v F hr hlk hW ⟨⟨g, fi, hb_1, hb_1_1, hg, fun j hj => (hsh j hj).elim (fun L hL => ⟨L, laneR_same hL (fun i h1 h2 => hoc i (by omega))⟩), fun k hk => absurd hk (by omega), hfi, by omega⟩, fun i hi => hoc i (by omega)⟩ dX1_clear_5

set_option maxHeartbeats 4000000 in
set_option maxRecDepth 100000 in
theorem c_remember {cx : CX} (hI : xI cx) (l : Launch) {μ : ME} {b z : Nat} {PN : Nat → LN} (hb100 : b + 100 ≤ xN cx) (hP : pastR cx μ b z PN) {a : Nat} {L : LN} (ha7 : a + 7 ≤ xN cx) (hab : b + 100 ≤ a ∨ a + 7 ≤ b) (hL : laneR cx μ a L) (hn6 : Ln L ≤ 6) : MT cx l yX1_remember cX1_remember 2 none 2 93 [.ref (xa cx b), .ref (xa cx a)] μ (Qv cx (fun μ1 => pastR cx μ1 b (min (z + 1) 14) (pushP PN L) ∧ off b 100 μ μ1)) := by
  refine mt_of hI (by decide) (Nat.le_of_ble_eq_true rfl) ?_
  intro p e s m below meth c ls F hr hlk hW hl
  have hx := F.1.1
  have hb := F.1.2.1
  have hts := F.1.2.2.2.2
  obtain ⟨g, fi, h0, h1, hg, hsh, hla, hfi, hz14⟩ := id hP
  have hl : lv_has ls 2 [(0, .ref (xa cx b)), (1, .ref (xa cx a))] := hl
  refine lv_aload_n hx hb dX1_remember_0 rfl (lv_at hl 0 rfl) ?_
  refine nv_get F hW (by omega) h0 rfl iX1 2 (by decide) tw_121 rfl dX1_remember_1 ?_
  refine lv_bipush (v := nI 14) hx hb dX1_remember_4 (by decide) ?_
  refine nv_cne (tgt := 32) F (by omega) (by omega) dX1_remember_6 (by decide) (fun c_1 => ?_) (fun c_1 => ?_)
  · skip
    refine lv_aload_n hx hb dX1_remember_32 rfl (lv_at hl 0 rfl) ?_
    refine nv_get F hW (by omega) h0 rfl iX1 0 (by decide) tw_119 rfl dX1_remember_33 ?_
    refine lv_aload_n hx hb dX1_remember_36 rfl (lv_at hl 0 rfl) ?_
    refine nv_get F hW (by omega) h0 rfl iX1 1 (by decide) tw_120 rfl dX1_remember_37 ?_
    refine lv_aload_n hx hb dX1_remember_40 rfl (lv_at hl 0 rfl) ?_
    refine nv_get F hW (by omega) h0 rfl iX1 2 (by decide) tw_121 rfl dX1_remember_41 ?_
    refine nv_add F dX1_remember_44 ?_
    refine lv_bipush (v := nI 14) hx hb dX1_remember_45 (by decide) ?_
    refine nv_rem F (by omega) (by omega) (by omega) dX1_remember_47 ?_
    obtain ⟨tt, ett⟩ : ∃ q, q = (fi + z) % 14 := ⟨_, rfl⟩
    rw [← ett]
    have htt : tt < 14 := by omega
    have hoc : ∀ i, ¬ i = b → μ i = μ i := fun i hi => rfl
    obtain ⟨Lt, hLt0⟩ := hsh tt htt
    have hLt : laneR cx μ (b + 2 + 7 * tt) Lt := laneR_same hLt0 (fun i h1 h2 => hoc i (by omega))
    have hLa : laneR cx μ a L := laneR_same hL (fun i h1 h2 => hoc i (by omega))
    obtain ⟨fkt, fst, fgt, fdt, flt, fct, h0t, h1t, h2t, h3t, h4t, h5t, h6t, hvt, hv2t⟩ := id hLt
    refine nv_aaldN F hW (by omega) h1 (by omega) (by decide) (hg tt htt) dX1_remember_48 ?_
    refine lv_aload_n hx hb dX1_remember_49 rfl (lv_at hl 1 rfl) ?_
    refine cl_v (cl_run (rest := []) F hW e_X1_25 (c_copyFrom hI l (by omega) ha7 (by omega) hLt hLa hn6) ⟨Nat.le_of_ble_eq_true rfl, Nat.le_of_ble_eq_true rfl⟩ (by omega) h0t rfl rfl rfl hl (Nat.le_of_ble_eq_true rfl) dX1_remember_50 ⟨Nat.zero_le _, Nat.zero_le _⟩) hW (fun μ2 H locs q_2 hW => ?_)
    obtain ⟨hLn, hon⟩ := q_2
    have hnb := (hon b (by omega)).trans h0
    have hnb_1 := (hon (b + 1) (by omega)).trans h1
    refine lv_aload_n hx hb dX1_remember_53 rfl (lv_at hl 0 rfl) ?_
    refine lv_dup hx hb dX1_remember_54 rfl ?_
    refine nv_get F hW (by omega) hnb rfl iX1 2 (by decide) tw_121 rfl dX1_remember_55 ?_
    refine lv_iconst (v := nI 1) hx hb dX1_remember_58 (by decide) ?_
    refine nv_add F dX1_remember_59 ?_
    refine nv_put F hW (by omega) hnb rfl iX1 tyX1 tyX1_ok nmX1 2 (by decide) tw_121 rfl rfl rfl (Nat.le_of_ble_eq_true rfl) dX1_remember_60 (fun H locs hW => ?_)
    obtain ⟨μ3, eμ3⟩ : ∃ zz9 : ME, zz9 = va_up μ2 b (.inr (1, [.ref (xa cx (b + 1)), .int (nI fi), .int (nI (z + 1))])) := ⟨_, rfl⟩
    have hW : St cx s μ3 H locs := by rw [eμ3]; exact hW
    have hb_3 : μ3 b = .inr (1, [.ref (xa cx (b + 1)), .int (nI fi), .int (nI (z + 1))]) := by rw [eμ3, va_up_self]
    have hb_1_3 := (congrFun eμ3 (b + 1)).trans ((va_up_ne _ _ (by omega)).trans hnb_1)
    have hend : ∀ i, ¬ i = b → (i < b + 2 + 7 * tt ∨ b + 2 + 7 * tt + 7 ≤ i) → μ3 i = μ i := fun i hi h2 => ((congrFun eμ3 i).trans (va_up_ne _ _ hi)).trans ((hon i h2).trans (hoc i hi))
    have hnew : laneR cx μ3 (b + 2 + 7 * tt) L := laneR_same hLn (fun i h1 h2 => by rw [eμ3, va_up_ne _ _ (by omega)])
    refine rt_v F hr hlk hW ⟨⟨g, fi, by rw [show min (z + 1) 14 = z + 1 by omega]; exact hb_3, hb_1_3, hg, fun j hj => ?_, fun k hk => ?_, by omega, by omega⟩, fun i hi => hend i (by omega) (by omega)⟩ dX1_remember_63
    · by_cases e : j = tt
      · subst e; exact ⟨L, hnew⟩
      · obtain ⟨Lj, hLj⟩ := hsh j hj
        exact ⟨Lj, laneR_same hLj (fun i h1 h2 => hend i (by omega) (by omega))⟩
    · unfold pushP
      by_cases e : k = 0
      · subst e
        rw [if_pos rfl, show (fi + min (z + 1) 14 + 13 - 0) % 14 = tt by omega]
        exact hnew
      · rw [if_neg e]
        have hkz : k - 1 < z := by omega
        have hx := hla (k - 1) hkz
        rw [show (fi + z + 13 - (k - 1)) % 14 = (fi + min (z + 1) 14 + 13 - k) % 14 by omega] at hx
        exact laneR_same hx (fun i h1 h2 => hend i (by omega) (by omega))
  · skip
    refine lv_aload_n hx hb dX1_remember_9 rfl (lv_at hl 0 rfl) ?_
    refine lv_aload_n hx hb dX1_remember_10 rfl (lv_at hl 0 rfl) ?_
    refine nv_get F hW (by omega) h0 rfl iX1 1 (by decide) tw_120 rfl dX1_remember_11 ?_
    refine lv_iconst (v := nI 1) hx hb dX1_remember_14 (by decide) ?_
    refine nv_add F dX1_remember_15 ?_
    refine lv_bipush (v := nI 14) hx hb dX1_remember_16 (by decide) ?_
    refine nv_rem F (by omega) (by omega) (by omega) dX1_remember_18 ?_
    refine nv_put F hW (by omega) h0 rfl iX1 tyX1 tyX1_ok nmX1 1 (by decide) tw_120 rfl rfl rfl (Nat.le_of_ble_eq_true rfl) dX1_remember_19 (fun H locs hW => ?_)
    obtain ⟨μ4, eμ4⟩ : ∃ zz9 : ME, zz9 = va_up μ b (.inr (1, [.ref (xa cx (b + 1)), .int (nI ((fi + 1) % 14)), .int (nI z)])) := ⟨_, rfl⟩
    have hW : St cx s μ4 H locs := by rw [eμ4]; exact hW
    have hb_4 : μ4 b = .inr (1, [.ref (xa cx (b + 1)), .int (nI ((fi + 1) % 14)), .int (nI z)]) := by rw [eμ4, va_up_self]
    have hb_1_4 := (congrFun eμ4 (b + 1)).trans ((va_up_ne _ _ (by omega)).trans h1)
    refine lv_aload_n hx hb dX1_remember_22 rfl (lv_at hl 0 rfl) ?_
    refine lv_dup hx hb dX1_remember_23 rfl ?_
    refine nv_get F hW (by omega) hb_4 rfl iX1 2 (by decide) tw_121 rfl dX1_remember_24 ?_
    refine lv_iconst (v := nI 1) hx hb dX1_remember_27 (by decide) ?_
    refine nv_sub F (by omega) dX1_remember_28 ?_
    refine nv_put F hW (by omega) hb_4 rfl iX1 tyX1 tyX1_ok nmX1 2 (by decide) tw_121 rfl rfl rfl (Nat.le_of_ble_eq_true rfl) dX1_remember_29 (fun H locs hW => ?_)
    obtain ⟨μ5, eμ5⟩ : ∃ zz9 : ME, zz9 = va_up μ4 b (.inr (1, [.ref (xa cx (b + 1)), .int (nI ((fi + 1) % 14)), .int (nI (z - 1))])) := ⟨_, rfl⟩
    have hW : St cx s μ5 H locs := by rw [eμ5]; exact hW
    have hb_5 : μ5 b = .inr (1, [.ref (xa cx (b + 1)), .int (nI ((fi + 1) % 14)), .int (nI (z - 1))]) := by rw [eμ5, va_up_self]
    have hb_1_5 := (congrFun eμ5 (b + 1)).trans ((va_up_ne _ _ (by omega)).trans hb_1_4)
    refine lv_aload_n hx hb dX1_remember_32 rfl (lv_at hl 0 rfl) ?_
    refine nv_get F hW (by omega) hb_5 rfl iX1 0 (by decide) tw_119 rfl dX1_remember_33 ?_
    refine lv_aload_n hx hb dX1_remember_36 rfl (lv_at hl 0 rfl) ?_
    refine nv_get F hW (by omega) hb_5 rfl iX1 1 (by decide) tw_120 rfl dX1_remember_37 ?_
    refine lv_aload_n hx hb dX1_remember_40 rfl (lv_at hl 0 rfl) ?_
    refine nv_get F hW (by omega) hb_5 rfl iX1 2 (by decide) tw_121 rfl dX1_remember_41 ?_
    refine nv_add F dX1_remember_44 ?_
    refine lv_bipush (v := nI 14) hx hb dX1_remember_45 (by decide) ?_
    refine nv_rem F (by omega) (by omega) (by omega) dX1_remember_47 ?_
    obtain ⟨tt, ett⟩ : ∃ q, q = (((fi + 1) % 14) + (z - 1)) % 14 := ⟨_, rfl⟩
    rw [← ett]
    have htt : tt < 14 := by omega
    have hoc : ∀ i, ¬ i = b → μ5 i = μ i := fun i hi => by rw [eμ5, va_up_ne _ _ hi]; rw [eμ4, va_up_ne _ _ hi]
    obtain ⟨Lt, hLt0⟩ := hsh tt htt
    have hLt : laneR cx μ5 (b + 2 + 7 * tt) Lt := laneR_same hLt0 (fun i h1 h2 => hoc i (by omega))
    have hLa : laneR cx μ5 a L := laneR_same hL (fun i h1 h2 => hoc i (by omega))
    obtain ⟨fkt, fst, fgt, fdt, flt, fct, h0t, h1t, h2t, h3t, h4t, h5t, h6t, hvt, hv2t⟩ := id hLt
    refine nv_aaldN F hW (by omega) hb_1_5 (by omega) (by decide) (hg tt htt) dX1_remember_48 ?_
    refine lv_aload_n hx hb dX1_remember_49 rfl (lv_at hl 1 rfl) ?_
    refine cl_v (cl_run (rest := []) F hW e_X1_25 (c_copyFrom hI l (by omega) ha7 (by omega) hLt hLa hn6) ⟨Nat.le_of_ble_eq_true rfl, Nat.le_of_ble_eq_true rfl⟩ (by omega) h0t rfl rfl rfl hl (Nat.le_of_ble_eq_true rfl) dX1_remember_50 ⟨Nat.zero_le _, Nat.zero_le _⟩) hW (fun μ6 H locs q_6 hW => ?_)
    obtain ⟨hLn, hon⟩ := q_6
    have hnb := (hon b (by omega)).trans hb_5
    have hnb_1 := (hon (b + 1) (by omega)).trans hb_1_5
    refine lv_aload_n hx hb dX1_remember_53 rfl (lv_at hl 0 rfl) ?_
    refine lv_dup hx hb dX1_remember_54 rfl ?_
    refine nv_get F hW (by omega) hnb rfl iX1 2 (by decide) tw_121 rfl dX1_remember_55 ?_
    refine lv_iconst (v := nI 1) hx hb dX1_remember_58 (by decide) ?_
    refine nv_add F dX1_remember_59 ?_
    refine nv_put F hW (by omega) hnb rfl iX1 tyX1 tyX1_ok nmX1 2 (by decide) tw_121 rfl rfl rfl (Nat.le_of_ble_eq_true rfl) dX1_remember_60 (fun H locs hW => ?_)
    obtain ⟨μ7, eμ7⟩ : ∃ zz9 : ME, zz9 = va_up μ6 b (.inr (1, [.ref (xa cx (b + 1)), .int (nI ((fi + 1) % 14)), .int (nI ((z - 1) + 1))])) := ⟨_, rfl⟩
    have hW : St cx s μ7 H locs := by rw [eμ7]; exact hW
    have hb_7 : μ7 b = .inr (1, [.ref (xa cx (b + 1)), .int (nI ((fi + 1) % 14)), .int (nI ((z - 1) + 1))]) := by rw [eμ7, va_up_self]
    have hb_1_7 := (congrFun eμ7 (b + 1)).trans ((va_up_ne _ _ (by omega)).trans hnb_1)
    have hend : ∀ i, ¬ i = b → (i < b + 2 + 7 * tt ∨ b + 2 + 7 * tt + 7 ≤ i) → μ7 i = μ i := fun i hi h2 => ((congrFun eμ7 i).trans (va_up_ne _ _ hi)).trans ((hon i h2).trans (hoc i hi))
    have hnew : laneR cx μ7 (b + 2 + 7 * tt) L := laneR_same hLn (fun i h1 h2 => by rw [eμ7, va_up_ne _ _ (by omega)])
    refine rt_v F hr hlk hW ⟨⟨g, ((fi + 1) % 14), by rw [show min (z + 1) 14 = (z - 1) + 1 by omega]; exact hb_7, hb_1_7, hg, fun j hj => ?_, fun k hk => ?_, by omega, by omega⟩, fun i hi => hend i (by omega) (by omega)⟩ dX1_remember_63
    · by_cases e : j = tt
      · subst e; exact ⟨L, hnew⟩
      · obtain ⟨Lj, hLj⟩ := hsh j hj
        exact ⟨Lj, laneR_same hLj (fun i h1 h2 => hend i (by omega) (by omega))⟩
    · unfold pushP
      by_cases e : k = 0
      · subst e
        rw [if_pos rfl, show (((fi + 1) % 14) + min (z + 1) 14 + 13 - 0) % 14 = tt by omega]
        exact hnew
      · rw [if_neg e]
        have hkz : k - 1 < z := by omega
        have hx := hla (k - 1) hkz
        rw [show (fi + z + 13 - (k - 1)) % 14 = (((fi + 1) % 14) + min (z + 1) 14 + 13 - k) % 14 by omega] at hx
        exact laneR_same hx (fun i h1 h2 => hend i (by omega) (by omega))

set_option maxHeartbeats 4000000 in
set_option maxRecDepth 100000 in
theorem c_goBack {cx : CX} (hI : xI cx) (l : Launch) {μ : ME} {b z : Nat} {PN : Nat → LN} (hb100 : b + 100 ≤ xN cx) (hP : pastR cx μ b z PN) {a : Nat} {L : LN} (ha7 : a + 7 ≤ xN cx) (hab : b + 100 ≤ a ∨ a + 7 ≤ b) (hL : laneR cx μ a L) (hn0 : Ln (PN 0) ≤ 6) (hz0 : 0 < z) : MT cx l yX1_goBack cX1_goBack 2 none 2 93 [.ref (xa cx b), .ref (xa cx a)] μ (Qv cx (fun μ1 => laneR cx μ1 a (PN 0) ∧ pastR cx μ1 b (z - 1) (fun k => PN (k + 1)) ∧ ∀ i, (i < a ∨ a + 7 ≤ i) → (i < b ∨ b + 100 ≤ i) → μ1 i = μ i)) := by
  refine mt_of hI (by decide) (Nat.le_of_ble_eq_true rfl) ?_
  intro p e s m below meth c ls F hr hlk hW hl
  have hx := F.1.1
  have hb := F.1.2.1
  have hts := F.1.2.2.2.2
  obtain ⟨g, fi, h0, h1, hg, hsh, hla, hfi, hz14⟩ := id hP
  have hl : lv_has ls 2 [(0, .ref (xa cx b)), (1, .ref (xa cx a))] := hl
  refine lv_aload_n hx hb dX1_goBack_0 rfl (lv_at hl 0 rfl) ?_
  refine nv_get F hW (by omega) h0 rfl iX1 2 (by decide) tw_121 rfl dX1_goBack_1 ?_
  refine nv_zle (tgt := 38) F (by omega) dX1_goBack_4 (by decide) (fun c_1 => ?_) (fun c_1 => ?_)
  · skip
    exact absurd c_1 (by omega)
  · skip
    refine lv_aload_n hx hb dX1_goBack_7 rfl (lv_at hl 0 rfl) ?_
    refine lv_dup hx hb dX1_goBack_8 rfl ?_
    refine nv_get F hW (by omega) h0 rfl iX1 2 (by decide) tw_121 rfl dX1_goBack_9 ?_
    refine lv_iconst (v := nI 1) hx hb dX1_goBack_12 (by decide) ?_
    refine nv_sub F (by omega) dX1_goBack_13 ?_
    refine nv_put F hW (by omega) h0 rfl iX1 tyX1 tyX1_ok nmX1 2 (by decide) tw_121 rfl rfl rfl (Nat.le_of_ble_eq_true rfl) dX1_goBack_14 (fun H locs hW => ?_)
    obtain ⟨μ2, eμ2⟩ : ∃ zz9 : ME, zz9 = va_up μ b (.inr (1, [.ref (xa cx (b + 1)), .int (nI fi), .int (nI (z - 1))])) := ⟨_, rfl⟩
    have hW : St cx s μ2 H locs := by rw [eμ2]; exact hW
    have hb_2 : μ2 b = .inr (1, [.ref (xa cx (b + 1)), .int (nI fi), .int (nI (z - 1))]) := by rw [eμ2, va_up_self]
    have hb_1_2 := (congrFun eμ2 (b + 1)).trans ((va_up_ne _ _ (by omega)).trans h1)
    refine lv_aload_n hx hb dX1_goBack_17 rfl (lv_at hl 1 rfl) ?_
    refine lv_aload_n hx hb dX1_goBack_18 rfl (lv_at hl 0 rfl) ?_
    refine nv_get F hW (by omega) hb_2 rfl iX1 0 (by decide) tw_119 rfl dX1_goBack_19 ?_
    refine lv_aload_n hx hb dX1_goBack_22 rfl (lv_at hl 0 rfl) ?_
    refine nv_get F hW (by omega) hb_2 rfl iX1 1 (by decide) tw_120 rfl dX1_goBack_23 ?_
    refine lv_aload_n hx hb dX1_goBack_26 rfl (lv_at hl 0 rfl) ?_
    refine nv_get F hW (by omega) hb_2 rfl iX1 2 (by decide) tw_121 rfl dX1_goBack_27 ?_
    refine nv_add F dX1_goBack_30 ?_
    refine lv_bipush (v := nI 14) hx hb dX1_goBack_31 (by decide) ?_
    refine nv_rem F (by omega) (by omega) (by omega) dX1_goBack_33 ?_
    obtain ⟨tt, ett⟩ : ∃ q, q = (fi + (z - 1)) % 14 := ⟨_, rfl⟩
    rw [← ett]
    have htt : tt < 14 := by omega
    have hoc : ∀ i, ¬ i = b → μ2 i = μ i := fun i hi => by rw [eμ2, va_up_ne _ _ hi]
    have hx := hla 0 hz0
    rw [show (fi + z + 13 - 0) % 14 = tt by omega] at hx
    have hLt : laneR cx μ2 (b + 2 + 7 * tt) (PN 0) := laneR_same hx (fun i h1 h2 => hoc i (by omega))
    have hLa : laneR cx μ2 a L := laneR_same hL (fun i h1 h2 => hoc i (by omega))
    obtain ⟨fkt, fst, fgt, fdt, flt, fct, h0t, h1t, h2t, h3t, h4t, h5t, h6t, hvt, hv2t⟩ := id hLa
    refine nv_aaldN F hW (by omega) hb_1_2 (by omega) (by decide) (hg tt htt) dX1_goBack_34 ?_
    refine cl_v (cl_run (rest := []) F hW e_X1_25 (c_copyFrom hI l ha7 (by omega) (by omega) hLa hLt hn0) ⟨Nat.le_of_ble_eq_true rfl, Nat.le_of_ble_eq_true rfl⟩ (by omega) h0t rfl rfl rfl hl (Nat.le_of_ble_eq_true rfl) dX1_goBack_35 ⟨Nat.zero_le _, Nat.zero_le _⟩) hW (fun μ3 H locs q_3 hW => ?_)
    obtain ⟨hLn, hon⟩ := q_3
    have hnb := (hon b (by omega)).trans hb_2
    have hnb_1 := (hon (b + 1) (by omega)).trans hb_1_2
    have hend : ∀ i, ¬ i = b → (i < a ∨ a + 7 ≤ i) → μ3 i = μ i := fun i hi h2 => by rw [hon i h2]; exact hoc i hi
    refine rt_v F hr hlk hW ⟨hLn, ⟨g, fi, hnb, hnb_1, hg, fun j hj => (hsh j hj).elim (fun Lj hLj => ⟨Lj, laneR_same hLj (fun i h1 h2 => hend i (by omega) (by omega))⟩), fun k hk => ?_, hfi, by omega⟩, fun i h1 h2 => hend i (by omega) h1⟩ dX1_goBack_38
    have hy := hla (k + 1) (by omega)
    rw [show (fi + z + 13 - (k + 1)) % 14 = (fi + (z - 1) + 13 - k) % 14 by omega] at hy
    exact laneR_same hy (fun i h1 h2 => hend i (by omega) (by omega))

/-- what was seen: hours, houses, stood -/
def seenR (cx : CX) (μ : ME) (b : Nat) (SH SO SS : Nat → Nat) (z : Nat) : Prop := ∃ f1 f2 f3 : Nat → Int32, μ b = .inr (2, [.ref (xa cx (b + 1)), .ref (xa cx (b + 2)), .ref (xa cx (b + 3)), .int (nI z)]) ∧ μ (b + 1) = .inl (xT cx 0, 6, .inl f1) ∧ μ (b + 2) = .inl (xT cx 0, 6, .inl f2) ∧ μ (b + 3) = .inl (xT cx 0, 6, .inl f3) ∧ (∀ i, i < z → f1 i = nI (SH i) ∧ f2 i = nI (SO i) ∧ f3 i = nI (SS i))
def sok (SH SO SS : Nat → Nat) (z : Nat) : Prop := z ≤ 6 ∧ ∀ i, i < z → SH i ≤ 9 ∧ SO i ≤ 5 ∧ SS i ≤ 1
theorem seenR_off {cx : CX} {μ μ1 : ME} {b a m z : Nat} {SH SO SS : Nat → Nat} (h : seenR cx μ b SH SO SS z) (ho : off a m μ μ1) (hd : a + m ≤ b ∨ b + 4 ≤ a) : seenR cx μ1 b SH SO SS z := by
  obtain ⟨f1, f2, f3, h0, h1, h2, h3, h4⟩ := h
  exact ⟨f1, f2, f3, (ho _ (by omega)).trans h0, (ho _ (by omega)).trans h1, (ho _ (by omega)).trans h2, (ho _ (by omega)).trans h3, h4⟩
/-- what is seen behind hour h agrees with the lane, of the first i -/
def agB (SH SO SS : Nat → Nat) (h : Nat) (L : LN) : Nat → Bool
  | 0 => true
  | i + 1 => agB SH SO SS h L i && (decide (¬ SH i = h) || (lst L (SO i) == decide (SS i = 1)))
theorem agB_f {SH SO SS : Nat → Nat} {h : Nat} {L : LN} {i n : Nat} (e : agB SH SO SS h L i = false) (hi : i ≤ n) : agB SH SO SS h L n = false := by
  induction n with
  | zero => rw [show i = 0 by omega] at e; exact e
  | succ n ih =>
    by_cases q : i = n + 1
    · rw [← q]; exact e
    · show (agB SH SO SS h L n && _) = false
      rw [ih (by omega)]
      rfl

set_option maxHeartbeats 4000000 in
set_option maxRecDepth 100000 in
theorem c_ssize {cx : CX} (hI : xI cx) (l : Launch) {μ : ME} {b z : Nat} {SH SO SS : Nat → Nat} (hb4 : b + 4 ≤ xN cx) (hS : seenR cx μ b SH SO SS z) (hso : sok SH SO SS z) : MT cx l yX2_size cX2_size 1 (some .int) 0 0 [.ref (xa cx b)] μ (Pi cx μ (nI z)) := by
  refine mt_of hI (by decide) (Nat.le_of_ble_eq_true rfl) ?_
  intro p e s m below meth c ls F hr hlk hW hl
  have hx := F.1.1
  have hb := F.1.2.1
  have hts := F.1.2.2.2.2
  obtain ⟨f1, f2, f3, h0, h1, h2, h3, hv⟩ := id hS
  have hz6 := hso.1
  have hs9 := hso.2
  have hl : lv_has ls 1 [(0, .ref (xa cx b))] := hl
  refine lv_aload_n hx hb dX2_size_0 rfl (lv_at hl 0 rfl) ?_
  refine nv_get F hW (by omega) h0 rfl iX2 3 (by decide) tw_138 rfl dX2_size_1 ?_
  exact rt_ip F hr hlk hW rfl rfl dX2_size_4

set_option maxHeartbeats 4000000 in
set_option maxRecDepth 100000 in
theorem c_sclear {cx : CX} (hI : xI cx) (l : Launch) {μ : ME} {b z : Nat} {SH SO SS : Nat → Nat} (hb4 : b + 4 ≤ xN cx) (hS : seenR cx μ b SH SO SS z) (hso : sok SH SO SS z) : MT cx l yX2_clear cX2_clear 2 (some .int) 0 0 [.ref (xa cx b)] μ (Ei cx (nI z) (fun μ1 => seenR cx μ1 b SH SO SS 0 ∧ off b 4 μ μ1)) := by
  refine mt_of hI (by decide) (Nat.le_of_ble_eq_true rfl) ?_
  intro p e s m below meth c ls F hr hlk hW hl
  have hx := F.1.1
  have hb := F.1.2.1
  have hts := F.1.2.2.2.2
  obtain ⟨f1, f2, f3, h0, h1, h2, h3, hv⟩ := id hS
  have hz6 := hso.1
  have hs9 := hso.2
  have hl : lv_has ls 2 [(0, .ref (xa cx b))] := hl
  refine lv_aload_n hx hb dX2_clear_0 rfl (lv_at hl 0 rfl) ?_
  refine nv_get F hW (by omega) h0 rfl iX2 3 (by decide) tw_138 rfl dX2_clear_1 ?_
  refine lv_istore_n (lv' := [(1, .int (nI z)), (0, .ref (xa cx b))]) hx hb dX2_clear_4 rfl hl (by decide) rfl (fun ls hl => ?_)
  refine lv_aload_n hx hb dX2_clear_5 rfl (lv_at hl 1 rfl) ?_
  refine lv_iconst (v := nI 0) hx hb dX2_clear_6 (by decide) ?_
  refine nv_put F hW (by omega) h0 rfl iX2 tyX2 tyX2_ok nmX2 3 (by decide) tw_138 rfl rfl rfl (Nat.le_of_ble_eq_true rfl) dX2_clear_7 (fun H locs hW => ?_)
  obtain ⟨μ1, eμ1⟩ : ∃ zz9 : ME, zz9 = va_up μ b (.inr (2, [.ref (xa cx (b + 1)), .ref (xa cx (b + 2)), .ref (xa cx (b + 3)), .int (nI 0)])) := ⟨_, rfl⟩
  have hW : St cx s μ1 H locs := by rw [eμ1]; exact hW
  have hb_1 : μ1 b = .inr (2, [.ref (xa cx (b + 1)), .ref (xa cx (b + 2)), .ref (xa cx (b + 3)), .int (nI 0)]) := by rw [eμ1, va_up_self]
  have hb_1_1 := (congrFun eμ1 (b + 1)).trans ((va_up_ne _ _ (by omega)).trans h1)
  have hb_2_1 := (congrFun eμ1 (b + 2)).trans ((va_up_ne _ _ (by omega)).trans h2)
  have hb_3_1 := (congrFun eμ1 (b + 3)).trans ((va_up_ne _ _ (by omega)).trans h3)
  refine lv_iload_n hx hb dX2_clear_10 rfl (lv_at hl 0 rfl) ?_
  exact rt_ie F hr hlk hW rfl ⟨⟨f1, f2, f3, hb_1, hb_1_1, hb_2_1, hb_3_1, fun i hi => absurd hi (by omega)⟩, (fun z hz => by rw [eμ1, va_up_ne _ _ (by omega)])⟩ dX2_clear_11

set_option maxHeartbeats 4000000 in
set_option maxRecDepth 100000 in
theorem c_sadd {cx : CX} (hI : xI cx) (l : Launch) {μ : ME} {b z : Nat} {SH SO SS : Nat → Nat} (hb4 : b + 4 ≤ xN cx) (hS : seenR cx μ b SH SO SS z) (hso : sok SH SO SS z) (h o t : Nat) : MT cx l yX2_add cX2_add 4 (some .boolean) 0 0 [.ref (xa cx b), .int (nI h), .int (nI o), .int (nI t)] μ (Ei cx (b2 (decide (z < 6))) (fun μ1 => seenR cx μ1 b (if z < 6 then va_up SH z h else SH) (if z < 6 then va_up SO z o else SO) (if z < 6 then va_up SS z t else SS) (if z < 6 then z + 1 else z) ∧ off b 4 μ μ1)) := by
  refine mt_of hI (by decide) (Nat.le_of_ble_eq_true rfl) ?_
  intro p e s m below meth c ls F hr hlk hW hl
  have hx := F.1.1
  have hb := F.1.2.1
  have hts := F.1.2.2.2.2
  obtain ⟨f1, f2, f3, h0, h1, h2, h3, hv⟩ := id hS
  have hz6 := hso.1
  have hs9 := hso.2
  have hl : lv_has ls 4 [(0, .ref (xa cx b)), (1, .int (nI h)), (2, .int (nI o)), (3, .int (nI t))] := hl
  refine lv_aload_n hx hb dX2_add_0 rfl (lv_at hl 0 rfl) ?_
  refine nv_get F hW (by omega) h0 rfl iX2 3 (by decide) tw_138 rfl dX2_add_1 ?_
  refine lv_bipush (v := nI 6) hx hb dX2_add_4 (by decide) ?_
  refine nv_clt (tgt := 11) F (by omega) (by omega) dX2_add_6 (by decide) (fun c_1 => ?_) (fun c_1 => ?_)
  · skip
    refine lv_aload_n hx hb dX2_add_11 rfl (lv_at hl 0 rfl) ?_
    refine nv_get F hW (by omega) h0 rfl iX2 0 (by decide) tw_135 rfl dX2_add_12 ?_
    refine lv_aload_n hx hb dX2_add_15 rfl (lv_at hl 0 rfl) ?_
    refine nv_get F hW (by omega) h0 rfl iX2 3 (by decide) tw_138 rfl dX2_add_16 ?_
    refine lv_iload_n hx hb dX2_add_19 rfl (lv_at hl 1 rfl) ?_
    refine nv_iastN F hW (by omega) h1 (by omega) (by decide) dX2_add_20 (fun H locs hW => ?_)
    obtain ⟨μ2, eμ2⟩ : ∃ zz9 : ME, zz9 = va_up μ (b + 1) (.inl (xT cx 0, 6, .inl (upd f1 z ((nI h))))) := ⟨_, rfl⟩
    have hW : St cx s μ2 H locs := by rw [eμ2]; exact hW
    have hb_2 := (congrFun eμ2 b).trans ((va_up_ne _ _ (by omega)).trans h0)
    have hb_1_2 : μ2 (b + 1) = .inl (xT cx 0, 6, .inl (upd f1 z ((nI h)))) := by rw [eμ2, va_up_self]
    have hb_2_2 := (congrFun eμ2 (b + 2)).trans ((va_up_ne _ _ (by omega)).trans h2)
    have hb_3_2 := (congrFun eμ2 (b + 3)).trans ((va_up_ne _ _ (by omega)).trans h3)
    refine lv_aload_n hx hb dX2_add_21 rfl (lv_at hl 0 rfl) ?_
    refine nv_get F hW (by omega) hb_2 rfl iX2 1 (by decide) tw_136 rfl dX2_add_22 ?_
    refine lv_aload_n hx hb dX2_add_25 rfl (lv_at hl 0 rfl) ?_
    refine nv_get F hW (by omega) hb_2 rfl iX2 3 (by decide) tw_138 rfl dX2_add_26 ?_
    refine lv_iload_n hx hb dX2_add_29 rfl (lv_at hl 2 rfl) ?_
    refine nv_iastN F hW (by omega) hb_2_2 (by omega) (by decide) dX2_add_30 (fun H locs hW => ?_)
    obtain ⟨μ3, eμ3⟩ : ∃ zz9 : ME, zz9 = va_up μ2 (b + 2) (.inl (xT cx 0, 6, .inl (upd f2 z ((nI o))))) := ⟨_, rfl⟩
    have hW : St cx s μ3 H locs := by rw [eμ3]; exact hW
    have hb_3 := (congrFun eμ3 b).trans ((va_up_ne _ _ (by omega)).trans hb_2)
    have hb_1_3 := (congrFun eμ3 (b + 1)).trans ((va_up_ne _ _ (by omega)).trans hb_1_2)
    have hb_2_3 : μ3 (b + 2) = .inl (xT cx 0, 6, .inl (upd f2 z ((nI o)))) := by rw [eμ3, va_up_self]
    have hb_3_3 := (congrFun eμ3 (b + 3)).trans ((va_up_ne _ _ (by omega)).trans hb_3_2)
    refine lv_aload_n hx hb dX2_add_31 rfl (lv_at hl 0 rfl) ?_
    refine nv_get F hW (by omega) hb_3 rfl iX2 2 (by decide) tw_137 rfl dX2_add_32 ?_
    refine lv_aload_n hx hb dX2_add_35 rfl (lv_at hl 0 rfl) ?_
    refine nv_get F hW (by omega) hb_3 rfl iX2 3 (by decide) tw_138 rfl dX2_add_36 ?_
    refine lv_iload_n hx hb dX2_add_39 rfl (lv_at hl 3 rfl) ?_
    refine nv_iastN F hW (by omega) hb_3_3 (by omega) (by decide) dX2_add_40 (fun H locs hW => ?_)
    obtain ⟨μ4, eμ4⟩ : ∃ zz9 : ME, zz9 = va_up μ3 (b + 3) (.inl (xT cx 0, 6, .inl (upd f3 z ((nI t))))) := ⟨_, rfl⟩
    have hW : St cx s μ4 H locs := by rw [eμ4]; exact hW
    have hb_4 := (congrFun eμ4 b).trans ((va_up_ne _ _ (by omega)).trans hb_3)
    have hb_1_4 := (congrFun eμ4 (b + 1)).trans ((va_up_ne _ _ (by omega)).trans hb_1_3)
    have hb_2_4 := (congrFun eμ4 (b + 2)).trans ((va_up_ne _ _ (by omega)).trans hb_2_3)
    have hb_3_4 : μ4 (b + 3) = .inl (xT cx 0, 6, .inl (upd f3 z ((nI t)))) := by rw [eμ4, va_up_self]
    refine lv_aload_n hx hb dX2_add_41 rfl (lv_at hl 0 rfl) ?_
    refine lv_dup hx hb dX2_add_42 rfl ?_
    refine nv_get F hW (by omega) hb_4 rfl iX2 3 (by decide) tw_138 rfl dX2_add_43 ?_
    refine lv_iconst (v := nI 1) hx hb dX2_add_46 (by decide) ?_
    refine nv_add F dX2_add_47 ?_
    refine nv_put F hW (by omega) hb_4 rfl iX2 tyX2 tyX2_ok nmX2 3 (by decide) tw_138 rfl rfl rfl (Nat.le_of_ble_eq_true rfl) dX2_add_48 (fun H locs hW => ?_)
    obtain ⟨μ5, eμ5⟩ : ∃ zz9 : ME, zz9 = va_up μ4 b (.inr (2, [.ref (xa cx (b + 1)), .ref (xa cx (b + 2)), .ref (xa cx (b + 3)), .int (nI (z + 1))])) := ⟨_, rfl⟩
    have hW : St cx s μ5 H locs := by rw [eμ5]; exact hW
    have hb_5 : μ5 b = .inr (2, [.ref (xa cx (b + 1)), .ref (xa cx (b + 2)), .ref (xa cx (b + 3)), .int (nI (z + 1))]) := by rw [eμ5, va_up_self]
    have hb_1_5 := (congrFun eμ5 (b + 1)).trans ((va_up_ne _ _ (by omega)).trans hb_1_4)
    have hb_2_5 := (congrFun eμ5 (b + 2)).trans ((va_up_ne _ _ (by omega)).trans hb_2_4)
    have hb_3_5 := (congrFun eμ5 (b + 3)).trans ((va_up_ne _ _ (by omega)).trans hb_3_4)
    refine lv_iconst (v := nI 1) hx hb dX2_add_51 (by decide) ?_
    exact rt_ze F hr hlk hW (b2_t (by omega)) ⟨by rw [if_pos (show z < 6 by omega), if_pos (show z < 6 by omega), if_pos (show z < 6 by omega), if_pos (show z < 6 by omega)]; exact ⟨(upd f1 z ((nI h))), (upd f2 z ((nI o))), (upd f3 z ((nI t))), hb_5, hb_1_5, hb_2_5, hb_3_5, fun i hi => by
      unfold upd va_up
      by_cases e : i = z
      · rw [if_pos e, if_pos e, if_pos e, if_pos e, if_pos e, if_pos e]; exact ⟨rfl, rfl, rfl⟩
      · rw [if_neg e, if_neg e, if_neg e, if_neg e, if_neg e, if_neg e]; exact hv i (by omega)⟩, (fun z hz => by rw [eμ5, va_up_ne _ _ (by omega)]; rw [eμ4, va_up_ne _ _ (by omega)]; rw [eμ3, va_up_ne _ _ (by omega)]; rw [eμ2, va_up_ne _ _ (by omega)])⟩ dX2_add_52
  · skip
    refine lv_iconst (v := nI 0) hx hb dX2_add_9 (by decide) ?_
    exact rt_ze F hr hlk hW (b2_f (by omega)) ⟨by rw [if_neg (show ¬ z < 6 by omega), if_neg (show ¬ z < 6 by omega), if_neg (show ¬ z < 6 by omega), if_neg (show ¬ z < 6 by omega)]; exact hS, off_rf⟩ dX2_add_10

set_option maxHeartbeats 4000000 in
set_option maxRecDepth 100000 in
theorem c_agrees {cx : CX} (hI : xI cx) (l : Launch) {μ : ME} {b z : Nat} {SH SO SS : Nat → Nat} (hb4 : b + 4 ≤ xN cx) (hS : seenR cx μ b SH SO SS z) (hso : sok SH SO SS z) {a : Nat} {L : LN} {B : Nat} (ha7 : a + 7 ≤ xN cx) (hL : laneR cx μ a L) (hk : lok L B) (h : Nat) (hh : h ≤ 9) : MT cx l yX2_agrees cX2_agrees 4 (some .boolean) 1 21 [.ref (xa cx b), .int (nI h), .ref (xa cx a)] μ (Pi cx μ (b2 (agB SH SO SS h L z))) := by
  refine mt_of hI (by decide) (Nat.le_of_ble_eq_true rfl) ?_
  intro p e s m below meth c ls F hr hlk hW hl
  have hx := F.1.1
  have hb := F.1.2.1
  have hts := F.1.2.2.2.2
  obtain ⟨f1, f2, f3, h0, h1, h2, h3, hv⟩ := id hS
  have hz6 := hso.1
  have hs9 := hso.2
  obtain ⟨fkt, fst, fgt, fdt, flt, fct, h0t, h1t, h2t, h3t, h4t, h5t, h6t, hvt, hv2t⟩ := id hL
  have hl : lv_has ls 4 [(0, .ref (xa cx b)), (1, .int (nI h)), (2, .ref (xa cx a))] := hl
  refine lv_iconst (v := nI 0) hx hb dX2_agrees_0 (by decide) ?_
  refine lv_istore_n (lv' := [(3, .int (nI 0)), (0, .ref (xa cx b)), (1, .int (nI h)), (2, .ref (xa cx a))]) hx hb dX2_agrees_1 rfl hl (by decide) rfl (fun ls hl => ?_)
  have LOOP : ∀ (d i : Nat)  (H : Heap) (locs : List Loc) (ls : Array Slot), i + d = z → (agB SH SO SS h L i = true) → St cx s μ H locs → lv_has ls 4 [(0, .ref (xa cx b)), (1, .int (nI h)), (2, .ref (xa cx a)), (3, .int (nI i))] → W p l e { frames := 1, cells := 0, slots := 0, locals := 21 } s m [.ref (xa cx b), .int (nI h), .ref (xa cx a)].toArray below meth c H locs 0 0 (MQ below (Pi cx μ (b2 (agB SH SO SS h L z))) [.ref (xa cx b), .int (nI h), .ref (xa cx a)].toArray s 0 0 (xA cx)) (F0 m 2 ls []) := by
    intro d
    induction d with
    | zero =>
      intro i   H locs ls hid hag hW hl
      refine lv_iload_n hx hb dX2_agrees_2 rfl (lv_at hl 3 rfl) ?_
      refine lv_aload_n hx hb dX2_agrees_3 rfl (lv_at hl 0 rfl) ?_
      refine nv_get F hW (by omega) h0 rfl iX2 3 (by decide) tw_138 rfl dX2_agrees_4 ?_
      refine nv_cge (tgt := 56) F (by omega) (by omega) dX2_agrees_7 (by decide) (fun c_1 => ?_) (fun c_1 => ?_)
      · skip
        refine lv_iconst (v := nI 1) hx hb dX2_agrees_56 (by decide) ?_
        exact rt_zp F hr hlk hW (by rw [show z = i by omega, hag]; rfl) rfl dX2_agrees_57
      · skip
        exact absurd c_1 (by omega)
    | succ d ih =>
      intro i   H locs ls hid hag hW hl
      refine lv_iload_n hx hb dX2_agrees_2 rfl (lv_at hl 3 rfl) ?_
      refine lv_aload_n hx hb dX2_agrees_3 rfl (lv_at hl 0 rfl) ?_
      refine nv_get F hW (by omega) h0 rfl iX2 3 (by decide) tw_138 rfl dX2_agrees_4 ?_
      refine nv_cge (tgt := 56) F (by omega) (by omega) dX2_agrees_7 (by decide) (fun c_2 => ?_) (fun c_2 => ?_)
      · skip
        exact absurd c_2 (by omega)
      · skip
        refine lv_aload_n hx hb dX2_agrees_10 rfl (lv_at hl 0 rfl) ?_
        refine nv_get F hW (by omega) h0 rfl iX2 0 (by decide) tw_135 rfl dX2_agrees_11 ?_
        refine lv_iload_n hx hb dX2_agrees_14 rfl (lv_at hl 3 rfl) ?_
        refine nv_ialdN (x := ((nI (SH i)))) F hW (by omega) h1 (by omega) (by decide) (hv i (by omega)).1 dX2_agrees_15 ?_
        refine lv_iload_n hx hb dX2_agrees_16 rfl (lv_at hl 1 rfl) ?_
        refine nv_cne (tgt := 50) F (by have := hs9 i (by omega); omega) (by omega) dX2_agrees_17 (by decide) (fun c_3 => ?_) (fun c_3 => ?_)
        · skip
          refine lv_iinc (v := ((nI (i + 1)))) (lv' := [(3, .int (nI (i + 1))), (0, .ref (xa cx b)), (1, .int (nI h)), (2, .ref (xa cx a))]) hx hb dX2_agrees_50 hl (k := 3) rfl (nI_add _ _) (by decide) rfl (fun ls hl => ?_)
          refine lv_goto (tgt := 2) hx hb dX2_agrees_53 (by decide) ?_
          have e1 : agB SH SO SS h L (i + 1) = true := by show (agB SH SO SS h L i && _) = true; rw [hag]; first | (rw [decide_eq_true (by assumption)]; rfl) | (simp [*])
          exact ih (i + 1) _ _ _ (by omega) e1 hW (lv_sub hl [1, 2, 3, 0] rfl)
        · skip
          refine lv_aload_n hx hb dX2_agrees_20 rfl (lv_at hl 2 rfl) ?_
          refine lv_aload_n hx hb dX2_agrees_21 rfl (lv_at hl 0 rfl) ?_
          refine nv_get F hW (by omega) h0 rfl iX2 1 (by decide) tw_136 rfl dX2_agrees_22 ?_
          refine lv_iload_n hx hb dX2_agrees_25 rfl (lv_at hl 3 rfl) ?_
          refine nv_ialdN (x := ((nI (SO i)))) F hW (by omega) h2 (by omega) (by decide) (hv i (by omega)).2.1 dX2_agrees_26 ?_
          refine cl_ip (cl_run (rest := []) F hW e_X2_25 (c_standsN hI l ha7 hL hk (SO i) (by have := hs9 i (by omega); omega)) ⟨Nat.le_of_ble_eq_true rfl, Nat.le_of_ble_eq_true rfl⟩ (by omega) h0t rfl rfl rfl hl (Nat.le_of_ble_eq_true rfl) dX2_agrees_27 ⟨Nat.zero_le _, Nat.zero_le _⟩) hW (fun H locs hW => ?_)
          refine lv_aload_n hx hb dX2_agrees_30 rfl (lv_at hl 0 rfl) ?_
          refine nv_get F hW (by omega) h0 rfl iX2 2 (by decide) tw_137 rfl dX2_agrees_31 ?_
          refine lv_iload_n hx hb dX2_agrees_34 rfl (lv_at hl 3 rfl) ?_
          refine nv_ialdN (x := ((nI (SS i)))) F hW (by omega) h3 (by omega) (by decide) (hv i (by omega)).2.2 dX2_agrees_35 ?_
          refine lv_iconst (v := nI 1) hx hb dX2_agrees_36 (by decide) ?_
          refine nv_cne (tgt := 44) F (by have := hs9 i (by omega); omega) (by omega) dX2_agrees_37 (by decide) (fun c_4 => ?_) (fun c_4 => ?_)
          · skip
            refine lv_iconst (v := nI 0) hx hb dX2_agrees_44 (by decide) ?_
            refine nv_b0eq (tgt := 50) F dX2_agrees_45 (by decide) (fun c_5 => ?_) (fun c_5 => ?_)
            · skip
              refine lv_iinc (v := ((nI (i + 1)))) (lv' := [(3, .int (nI (i + 1))), (0, .ref (xa cx b)), (1, .int (nI h)), (2, .ref (xa cx a))]) hx hb dX2_agrees_50 hl (k := 3) rfl (nI_add _ _) (by decide) rfl (fun ls hl => ?_)
              refine lv_goto (tgt := 2) hx hb dX2_agrees_53 (by decide) ?_
              have e1 : agB SH SO SS h L (i + 1) = true := by show (agB SH SO SS h L i && _) = true; rw [hag]; first | (rw [decide_eq_true (by assumption)]; rfl) | (simp [*])
              exact ih (i + 1) _ _ _ (by omega) e1 hW (lv_sub hl [1, 2, 3, 0] rfl)
            · skip
              refine lv_iconst (v := nI 0) hx hb dX2_agrees_48 (by decide) ?_
              have e1 : agB SH SO SS h L (i + 1) = false := by show (agB SH SO SS h L i && _) = false; rw [hag]; simp [*]
              exact rt_zp F hr hlk hW (by rw [agB_f e1 (by omega)]; rfl) rfl dX2_agrees_49
          · skip
            refine lv_iconst (v := nI 1) hx hb dX2_agrees_40 (by decide) ?_
            refine lv_goto (tgt := 45) hx hb dX2_agrees_41 (by decide) ?_
            refine nv_b1eq (tgt := 50) F dX2_agrees_45 (by decide) (fun c_6 => ?_) (fun c_6 => ?_)
            · skip
              refine lv_iinc (v := ((nI (i + 1)))) (lv' := [(3, .int (nI (i + 1))), (0, .ref (xa cx b)), (1, .int (nI h)), (2, .ref (xa cx a))]) hx hb dX2_agrees_50 hl (k := 3) rfl (nI_add _ _) (by decide) rfl (fun ls hl => ?_)
              refine lv_goto (tgt := 2) hx hb dX2_agrees_53 (by decide) ?_
              have e1 : agB SH SO SS h L (i + 1) = true := by show (agB SH SO SS h L i && _) = true; rw [hag]; first | (rw [decide_eq_true (by assumption)]; rfl) | (simp [*])
              exact ih (i + 1) _ _ _ (by omega) e1 hW (lv_sub hl [1, 2, 3, 0] rfl)
            · skip
              refine lv_iconst (v := nI 0) hx hb dX2_agrees_48 (by decide) ?_
              have e1 : agB SH SO SS h L (i + 1) = false := by show (agB SH SO SS h L i && _) = false; rw [hag]; simp [*]
              exact rt_zp F hr hlk hW (by rw [agB_f e1 (by omega)]; rfl) rfl dX2_agrees_49
  exact LOOP z 0 _ _ _ (by omega) rfl hW (lv_sub hl [1, 2, 3, 0] rfl)
