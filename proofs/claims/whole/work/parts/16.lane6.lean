set_option maxHeartbeats 4000000 in
set_option maxRecDepth 100000 in
theorem c_passHour {cx : CX} (hI : xI cx) (l : Launch) {μ : ME} {b : Nat} {L : LN} {B : Nat} (hb7 : b + 7 ≤ xN cx) (hL : laneR cx μ b L) (hk : lok L B) (hB : B + 600 < 1000000000) : MT cx l yX0_passHour cX0_passHour 2 (some .int) 2 94 [.ref (xa cx b)] μ (Ei cx (nI (pop (hF L))) (fun μ1 => laneR cx μ1 b (hour L) ∧ off b 7 μ μ1)) := by
  refine mt_of hI (by decide) (Nat.le_of_ble_eq_true rfl) ?_
  intro p e s m below meth c ls F hr hlk hW hl
  have hx := F.1.1
  have hb := F.1.2.1
  have hts := F.1.2.2.2.2
  obtain ⟨fk, fs, fg, fd, fl, fc, h0, h1, h2, h3, h4, h5, h6, hv, hv2⟩ := id hL
  have hn6 := hk.1
  have hU := lok_U hk
  have hk4 := hk.2.2.2.1
  have hl : lv_has ls 2 [(0, .ref (xa cx b))] := hl
  refine lv_aload_n hx hb dX0_passHour_0 rfl (lv_at hl 0 rfl) ?_
  refine cl_v (cl_run (rest := []) F hW e_X0_79 (c_passLoads hI l hb7 hL hk (by omega)) ⟨Nat.le_of_ble_eq_true rfl, Nat.le_of_ble_eq_true rfl⟩ (by omega) h0 rfl rfl rfl hl (Nat.le_of_ble_eq_true rfl) dX0_passHour_1 ⟨Nat.zero_le _, Nat.zero_le _⟩) hW (fun μ1 H locs q_1 hW => ?_)
  obtain ⟨hL_1, ho_1⟩ := q_1
  obtain ⟨fk_1, fs_1, fg_1, fd_1, fl_1, fc_1, h0_1, h1_1, h2_1, h3_1, h4_1, h5_1, h6_1, hv_1, hv2_1⟩ := id hL_1
  have hk_1 := lok_step hk
  refine lv_aload_n hx hb dX0_passHour_4 rfl (lv_at hl 0 rfl) ?_
  refine cl_ip (cl_run (rest := []) F hW e_X0_82 (c_fallingBits hI l hb7 hL_1 hk_1 (by omega)) ⟨Nat.le_of_ble_eq_true rfl, Nat.le_of_ble_eq_true rfl⟩ (by omega) h0_1 rfl rfl rfl hl (Nat.le_of_ble_eq_true rfl) dX0_passHour_5 ⟨Nat.zero_le _, Nat.zero_le _⟩) hW (fun H locs hW => ?_)
  refine nv_top (y := ((nI (hF L)))) rfl ?_
  refine lv_istore_n (lv' := [(1, .int (nI (hF L))), (0, .ref (xa cx b))]) hx hb dX0_passHour_8 rfl hl (by decide) rfl (fun ls hl => ?_)
  refine lv_aload_n hx hb dX0_passHour_9 rfl (lv_at hl 1 rfl) ?_
  refine lv_dup hx hb dX0_passHour_10 rfl ?_
  refine nv_get F hW (by omega) h0_1 rfl iX0 7 (by decide) tw_88 rfl dX0_passHour_11 ?_
  refine lv_iload_n hx hb dX0_passHour_14 rfl (lv_at hl 0 rfl) ?_
  refine lv_iconst (v := (-1)) hx hb dX0_passHour_15 (by decide) ?_
  refine lv_ixor hx hb dX0_passHour_16 ?_
  refine lv_iand hx hb dX0_passHour_17 ?_
  refine nv_top (y := ((nI (LU (hour L))))) (U_hour hk) ?_
  refine nv_put F hW (by omega) h0_1 rfl iX0 tyX0 tyX0_ok nmX0 7 (by decide) tw_88 rfl rfl rfl (Nat.le_of_ble_eq_true rfl) dX0_passHour_18 (fun H locs hW => ?_)
  obtain ⟨μ2, eμ2⟩ : ∃ z : ME, z = va_up μ1 b (.inr (0, [.ref (xa cx (b + 1)), .ref (xa cx (b + 2)), .ref (xa cx (b + 3)), .ref (xa cx (b + 4)), .ref (xa cx (b + 5)), .ref (xa cx (b + 6)), .int (nI (Ln (lstep L))), .int (nI (LU (hour L))), .int (nI (Lh (lstep L)))])) := ⟨_, rfl⟩
  have hW : St cx s μ2 H locs := by rw [eμ2]; exact hW
  have hb_2 : μ2 b = .inr (0, [.ref (xa cx (b + 1)), .ref (xa cx (b + 2)), .ref (xa cx (b + 3)), .ref (xa cx (b + 4)), .ref (xa cx (b + 5)), .ref (xa cx (b + 6)), .int (nI (Ln (lstep L))), .int (nI (LU (hour L))), .int (nI (Lh (lstep L)))]) := by rw [eμ2, va_up_self]
  have hb_1_2 := (congrFun eμ2 (b + 1)).trans ((va_up_ne _ _ (by omega)).trans h1_1)
  have hb_2_2 := (congrFun eμ2 (b + 2)).trans ((va_up_ne _ _ (by omega)).trans h2_1)
  have hb_3_2 := (congrFun eμ2 (b + 3)).trans ((va_up_ne _ _ (by omega)).trans h3_1)
  have hb_4_2 := (congrFun eμ2 (b + 4)).trans ((va_up_ne _ _ (by omega)).trans h4_1)
  have hb_5_2 := (congrFun eμ2 (b + 5)).trans ((va_up_ne _ _ (by omega)).trans h5_1)
  have hb_6_2 := (congrFun eμ2 (b + 6)).trans ((va_up_ne _ _ (by omega)).trans h6_1)
  refine lv_aload_n hx hb dX0_passHour_21 rfl (lv_at hl 1 rfl) ?_
  refine lv_dup hx hb dX0_passHour_22 rfl ?_
  refine nv_get F hW (by omega) hb_2 rfl iX0 8 (by decide) tw_89 rfl dX0_passHour_23 ?_
  refine lv_iconst (v := nI 1) hx hb dX0_passHour_26 (by decide) ?_
  refine nv_add F dX0_passHour_27 ?_
  refine nv_put F hW (by omega) hb_2 rfl iX0 tyX0 tyX0_ok nmX0 8 (by decide) tw_89 rfl rfl rfl (Nat.le_of_ble_eq_true rfl) dX0_passHour_28 (fun H locs hW => ?_)
  obtain ⟨μ3, eμ3⟩ : ∃ z : ME, z = va_up μ2 b (.inr (0, [.ref (xa cx (b + 1)), .ref (xa cx (b + 2)), .ref (xa cx (b + 3)), .ref (xa cx (b + 4)), .ref (xa cx (b + 5)), .ref (xa cx (b + 6)), .int (nI (Ln (lstep L))), .int (nI (LU (hour L))), .int (nI ((Lh (lstep L)) + 1))])) := ⟨_, rfl⟩
  have hW : St cx s μ3 H locs := by rw [eμ3]; exact hW
  have hb_3 : μ3 b = .inr (0, [.ref (xa cx (b + 1)), .ref (xa cx (b + 2)), .ref (xa cx (b + 3)), .ref (xa cx (b + 4)), .ref (xa cx (b + 5)), .ref (xa cx (b + 6)), .int (nI (Ln (lstep L))), .int (nI (LU (hour L))), .int (nI ((Lh (lstep L)) + 1))]) := by rw [eμ3, va_up_self]
  have hb_1_3 := (congrFun eμ3 (b + 1)).trans ((va_up_ne _ _ (by omega)).trans hb_1_2)
  have hb_2_3 := (congrFun eμ3 (b + 2)).trans ((va_up_ne _ _ (by omega)).trans hb_2_2)
  have hb_3_3 := (congrFun eμ3 (b + 3)).trans ((va_up_ne _ _ (by omega)).trans hb_3_2)
  have hb_4_3 := (congrFun eμ3 (b + 4)).trans ((va_up_ne _ _ (by omega)).trans hb_4_2)
  have hb_5_3 := (congrFun eμ3 (b + 5)).trans ((va_up_ne _ _ (by omega)).trans hb_5_2)
  have hb_6_3 := (congrFun eμ3 (b + 6)).trans ((va_up_ne _ _ (by omega)).trans hb_6_2)
  refine lv_iload_n hx hb dX0_passHour_31 rfl (lv_at hl 0 rfl) ?_
  refine cl_ip (cl_runS (rest := []) F hW e_X0_85 (c_bitCount hI l (hF L) (hF_lt hk.1)) ⟨Nat.le_of_ble_eq_true rfl, Nat.le_of_ble_eq_true rfl⟩ rfl rfl hl (Nat.le_of_ble_eq_true rfl) dX0_passHour_32 ⟨Nat.zero_le _, Nat.zero_le _⟩) hW (fun H locs hW => ?_)
  exact rt_ie F hr hlk hW rfl ⟨⟨fk_1, fs_1, fg_1, fd_1, fl_1, fc_1, hb_3, hb_1_3, hb_2_3, hb_3_3, hb_4_3, hb_5_3, hb_6_3, hv_1, fun i hi => by
      rw [lst_hour] at hi
      simp only [Bool.and_eq_true, Bool.not_eq_true'] at hi
      show _ = nI (if (hF L).testBit i = true then 0 else Ll (lstep L) i)
      rw [if_neg (by rw [hi.2]; decide)]
      exact hv2_1 i hi.1⟩, (fun z hz => by rw [eμ3, va_up_ne _ _ (by omega)]; rw [eμ2, va_up_ne _ _ (by omega)]; rw [ho_1 z (by omega)])⟩ dX0_passHour_35

set_option maxHeartbeats 4000000 in
set_option maxRecDepth 100000 in
theorem c_passHours {cx : CX} (hI : xI cx) (l : Launch) {μ : ME} {b : Nat} {L : LN} {B : Nat} (hb7 : b + 7 ≤ xN cx) (hL : laneR cx μ b L) (hk : lok L B) (n : Nat) (hn : n ≤ 100) (hB : B < 900000000) : MT cx l yX0_passHours cX0_passHours 3 none 3 115 [.ref (xa cx b), .int (nI n)] μ (Qv cx (fun μ1 => laneR cx μ1 b (hrs n L) ∧ off b 7 μ μ1)) := by
  refine mt_of hI (by decide) (Nat.le_of_ble_eq_true rfl) ?_
  intro p e s m below meth c ls F hr hlk hW hl
  have hx := F.1.1
  have hb := F.1.2.1
  have hts := F.1.2.2.2.2
  obtain ⟨fk, fs, fg, fd, fl, fc, h0, h1, h2, h3, h4, h5, h6, hv, hv2⟩ := id hL
  have hn6 := hk.1
  have hU := lok_U hk
  have hk4 := hk.2.2.2.1
  have hl : lv_has ls 3 [(0, .ref (xa cx b)), (1, .int (nI n))] := hl
  refine lv_iconst (v := nI 0) hx hb dX0_passHours_0 (by decide) ?_
  refine lv_istore_n (lv' := [(2, .int (nI 0)), (0, .ref (xa cx b)), (1, .int (nI n))]) hx hb dX0_passHours_1 rfl hl (by decide) rfl (fun ls hl => ?_)
  have LOOP : ∀ (d i : Nat)  (μ1 : ME) (H : Heap) (locs : List Loc) (ls : Array Slot), i + d = n → (laneR cx μ1 b (hrs i L)) → (off b 7 μ μ1) → St cx s μ1 H locs → lv_has ls 3 [(0, .ref (xa cx b)), (1, .int (nI n)), (2, .int (nI i))] → W p l e { frames := 3, cells := 0, slots := 0, locals := 115 } s m [.ref (xa cx b), .int (nI n)].toArray below meth c H locs 0 0 (MQ below (Qv cx (fun μ1 => laneR cx μ1 b (hrs n L) ∧ off b 7 μ μ1)) [.ref (xa cx b), .int (nI n)].toArray s 0 0 (xA cx)) (F0 m 2 ls []) := by
    intro d
    induction d with
    | zero =>
      intro i  μ1 H locs ls hid hLi hoi hW hl
      obtain ⟨fki, fsi, fgi, fdi, fli, fci, h0i, h1i, h2i, h3i, h4i, h5i, h6i, hvi, hv2i⟩ := id hLi
      have hki := lok_hrs hk i
      refine lv_iload_n hx hb dX0_passHours_2 rfl (lv_at hl 2 rfl) ?_
      refine lv_iload_n hx hb dX0_passHours_3 rfl (lv_at hl 1 rfl) ?_
      refine nv_cge (tgt := 18) F (by omega) (by omega) dX0_passHours_4 (by decide) (fun c_1 => ?_) (fun c_1 => ?_)
      · skip
        exact rt_v F hr hlk hW ⟨by rw [show n = i by omega]; exact hLi, hoi⟩ dX0_passHours_18
      · skip
        exact absurd c_1 (by omega)
    | succ d ih =>
      intro i  μ1 H locs ls hid hLi hoi hW hl
      obtain ⟨fki, fsi, fgi, fdi, fli, fci, h0i, h1i, h2i, h3i, h4i, h5i, h6i, hvi, hv2i⟩ := id hLi
      have hki := lok_hrs hk i
      refine lv_iload_n hx hb dX0_passHours_2 rfl (lv_at hl 2 rfl) ?_
      refine lv_iload_n hx hb dX0_passHours_3 rfl (lv_at hl 1 rfl) ?_
      refine nv_cge (tgt := 18) F (by omega) (by omega) dX0_passHours_4 (by decide) (fun c_2 => ?_) (fun c_2 => ?_)
      · skip
        exact absurd c_2 (by omega)
      · skip
        refine lv_aload_n hx hb dX0_passHours_7 rfl (lv_at hl 0 rfl) ?_
        refine cl_ie (cl_run (rest := []) F hW e_X0_90 (c_passHour hI l hb7 hLi hki (by omega)) ⟨Nat.le_of_ble_eq_true rfl, Nat.le_of_ble_eq_true rfl⟩ (by omega) h0i rfl rfl rfl hl (Nat.le_of_ble_eq_true rfl) dX0_passHours_8 ⟨Nat.zero_le _, Nat.zero_le _⟩) hW (fun μ3 H locs q_3 hW => ?_)
        obtain ⟨hL_3, ho_3⟩ := q_3
        obtain ⟨fk_3, fs_3, fg_3, fd_3, fl_3, fc_3, h0_3, h1_3, h2_3, h3_3, h4_3, h5_3, h6_3, hv_3, hv2_3⟩ := id hL_3
        have hk_3 := lok_hour hki
        refine lv_pop hx hb dX0_passHours_11 rfl ?_
        refine lv_iinc (v := ((nI (i + 1)))) (lv' := [(2, .int (nI (i + 1))), (0, .ref (xa cx b)), (1, .int (nI n))]) hx hb dX0_passHours_12 hl (k := 2) rfl (nI_add _ _) (by decide) rfl (fun ls hl => ?_)
        refine lv_goto (tgt := 2) hx hb dX0_passHours_15 (by decide) ?_
        exact ih (i + 1) μ3 _ _ _ (by omega) hL_3 (off_tr hoi ho_3) hW (lv_sub hl [1, 2, 0] rfl)
  exact LOOP n 0 μ _ _ _ (by omega) hL off_rf hW (lv_sub hl [1, 2, 0] rfl)

set_option maxHeartbeats 4000000 in
set_option maxRecDepth 100000 in
theorem c_staysCalm {cx : CX} (hI : xI cx) (l : Launch) {μ : ME} {b : Nat} {L : LN} {B : Nat} (hb7 : b + 7 ≤ xN cx) (hL : laneR cx μ b L) (hk : lok L B) (n : Nat) (hn : n ≤ 100) (hB : B < 900000000) : MT cx l yX0_staysCalm cX0_staysCalm 3 (some .boolean) 3 115 [.ref (xa cx b), .int (nI n)] μ (Ei cx (b2 (calm n L)) (fun μ1 => (∃ L1, laneR cx μ1 b L1) ∧ off b 7 μ μ1)) := by
  refine mt_of hI (by decide) (Nat.le_of_ble_eq_true rfl) ?_
  intro p e s m below meth c ls F hr hlk hW hl
  have hx := F.1.1
  have hb := F.1.2.1
  have hts := F.1.2.2.2.2
  obtain ⟨fk, fs, fg, fd, fl, fc, h0, h1, h2, h3, h4, h5, h6, hv, hv2⟩ := id hL
  have hn6 := hk.1
  have hU := lok_U hk
  have hk4 := hk.2.2.2.1
  have hl : lv_has ls 3 [(0, .ref (xa cx b)), (1, .int (nI n))] := hl
  refine lv_iconst (v := nI 0) hx hb dX0_staysCalm_0 (by decide) ?_
  refine lv_istore_n (lv' := [(2, .int (nI 0)), (0, .ref (xa cx b)), (1, .int (nI n))]) hx hb dX0_staysCalm_1 rfl hl (by decide) rfl (fun ls hl => ?_)
  have LOOP : ∀ (d i : Nat)  (μ1 : ME) (H : Heap) (locs : List Loc) (ls : Array Slot), i + d = n → (laneR cx μ1 b (hrs i L)) → (off b 7 μ μ1) → (calm i L = true) → St cx s μ1 H locs → lv_has ls 3 [(0, .ref (xa cx b)), (1, .int (nI n)), (2, .int (nI i))] → W p l e { frames := 3, cells := 0, slots := 0, locals := 115 } s m [.ref (xa cx b), .int (nI n)].toArray below meth c H locs 0 0 (MQ below (Ei cx (b2 (calm n L)) (fun μ1 => (∃ L1, laneR cx μ1 b L1) ∧ off b 7 μ μ1)) [.ref (xa cx b), .int (nI n)].toArray s 0 0 (xA cx)) (F0 m 2 ls []) := by
    intro d
    induction d with
    | zero =>
      intro i  μ1 H locs ls hid hLi hoi hci hW hl
      obtain ⟨fki, fsi, fgi, fdi, fli, fci, h0i, h1i, h2i, h3i, h4i, h5i, h6i, hvi, hv2i⟩ := id hLi
      have hki := lok_hrs hk i
      refine lv_iload_n hx hb dX0_staysCalm_2 rfl (lv_at hl 2 rfl) ?_
      refine lv_iload_n hx hb dX0_staysCalm_3 rfl (lv_at hl 1 rfl) ?_
      refine nv_cge (tgt := 22) F (by omega) (by omega) dX0_staysCalm_4 (by decide) (fun c_1 => ?_) (fun c_1 => ?_)
      · skip
        refine lv_iconst (v := nI 1) hx hb dX0_staysCalm_22 (by decide) ?_
        exact rt_ze F hr hlk hW (by rw [show n = i by omega, hci]; rfl) ⟨⟨_, hLi⟩, hoi⟩ dX0_staysCalm_23
      · skip
        exact absurd c_1 (by omega)
    | succ d ih =>
      intro i  μ1 H locs ls hid hLi hoi hci hW hl
      obtain ⟨fki, fsi, fgi, fdi, fli, fci, h0i, h1i, h2i, h3i, h4i, h5i, h6i, hvi, hv2i⟩ := id hLi
      have hki := lok_hrs hk i
      refine lv_iload_n hx hb dX0_staysCalm_2 rfl (lv_at hl 2 rfl) ?_
      refine lv_iload_n hx hb dX0_staysCalm_3 rfl (lv_at hl 1 rfl) ?_
      refine nv_cge (tgt := 22) F (by omega) (by omega) dX0_staysCalm_4 (by decide) (fun c_2 => ?_) (fun c_2 => ?_)
      · skip
        exact absurd c_2 (by omega)
      · skip
        refine lv_aload_n hx hb dX0_staysCalm_7 rfl (lv_at hl 0 rfl) ?_
        refine cl_ie (cl_run (rest := []) F hW e_X0_90 (c_passHour hI l hb7 hLi hki (by omega)) ⟨Nat.le_of_ble_eq_true rfl, Nat.le_of_ble_eq_true rfl⟩ (by omega) h0i rfl rfl rfl hl (Nat.le_of_ble_eq_true rfl) dX0_staysCalm_8 ⟨Nat.zero_le _, Nat.zero_le _⟩) hW (fun μ3 H locs q_3 hW => ?_)
        obtain ⟨hL_3, ho_3⟩ := q_3
        obtain ⟨fk_3, fs_3, fg_3, fd_3, fl_3, fc_3, h0_3, h1_3, h2_3, h3_3, h4_3, h5_3, h6_3, hv_3, hv2_3⟩ := id hL_3
        have hk_3 := lok_hour hki
        refine nv_zle (tgt := 16) F (by have := pop_le (hF (hrs i L)); omega) dX0_staysCalm_11 (by decide) (fun c_4 => ?_) (fun c_4 => ?_)
        · skip
          refine lv_iinc (v := ((nI (i + 1)))) (lv' := [(2, .int (nI (i + 1))), (0, .ref (xa cx b)), (1, .int (nI n))]) hx hb dX0_staysCalm_16 hl (k := 2) rfl (nI_add _ _) (by decide) rfl (fun ls hl => ?_)
          refine lv_goto (tgt := 2) hx hb dX0_staysCalm_19 (by decide) ?_
          exact ih (i + 1) μ3 _ _ _ (by omega) hL_3 (off_tr hoi ho_3) (by show (calm i L && decide (hF (hrs i L) = 0)) = true; rw [hci, decide_eq_true ((pop_0 _ (hF_lt hki.1)).mp (by omega))]; rfl) hW (lv_sub hl [1, 2, 0] rfl)
        · skip
          refine lv_iconst (v := nI 0) hx hb dX0_staysCalm_14 (by decide) ?_
          have hcf : calm n L = false := calm_f (i := i + 1) (by show (calm i L && decide (hF (hrs i L) = 0)) = false; rw [decide_eq_false (fun z => absurd ((pop_0 _ (hF_lt hki.1)).mpr z) (by omega)), Bool.and_false]) (by omega)
          exact rt_ze F hr hlk hW (by rw [hcf]; rfl) ⟨⟨_, hL_3⟩, off_tr hoi ho_3⟩ dX0_staysCalm_15
  exact LOOP n 0 μ _ _ _ (by omega) hL off_rf rfl hW (lv_sub hl [1, 2, 0] rfl)

def ringR (L : LN) : Nat → Nat
  | 0 => 0
  | i + 1 => ringR L i ||| (if Ld L i = 1 ∧ Ld L (i + 1) = 0 then 3 * 2 ^ i else 0)
def ringL (L : LN) : Nat := bitsOf (fun h => (decide (Ld L h = 1) && decide (h + 1 < Ln L) && decide (Ld L (h + 1) = 0)) || (decide (0 < h) && decide (Ld L h = 0) && decide (Ld L (h - 1) = 1))) (Ln L)
theorem three {i : Nat} : 3 * 2 ^ i = 2 ^ i ||| 2 ^ (i + 1) := by
  apply Nat.eq_of_testBit_eq
  intro j
  rw [Nat.testBit_or, Nat.testBit_two_pow, Nat.testBit_two_pow, Nat.mul_comm, Nat.testBit_two_pow_mul]
  by_cases h : i ≤ j
  · rw [decide_eq_true h, Bool.true_and]
    by_cases h1 : j = i
    · subst h1
      simp
    · by_cases h2 : j = i + 1
      · subst h2
        rw [show i + 1 - i = 1 by omega]
        simp
        decide
      · rw [decide_eq_false (by omega), decide_eq_false (by omega)]
        have : (3 : Nat).testBit (j - i) = false := Nat.testBit_lt_two_pow (Nat.lt_of_lt_of_le (show 3 < 2 ^ 2 by decide) (Nat.pow_le_pow_right (by decide) (by omega)))
        rw [this]
        rfl
  · rw [decide_eq_false h, decide_eq_false (by omega), decide_eq_false (by omega)]
    rfl
theorem ringR_bit (L : LN) (n j : Nat) : (ringR L n).testBit j = ((decide (j < n) && decide (Ld L j = 1 ∧ Ld L (j + 1) = 0)) || (decide (0 < j ∧ j - 1 < n) && decide (Ld L (j - 1) = 1 ∧ Ld L j = 0))) := by
  induction n with
  | zero => simp [ringR]
  | succ n ih =>
    show (ringR L n ||| _).testBit j = _
    rw [Nat.testBit_or, ih]
    have key : (if Ld L n = 1 ∧ Ld L (n + 1) = 0 then 3 * 2 ^ n else 0).testBit j = (decide (j = n ∨ j = n + 1) && decide (Ld L n = 1 ∧ Ld L (n + 1) = 0)) := by
      split
      · rename_i h
        rw [three, Nat.testBit_or, Nat.testBit_two_pow, Nat.testBit_two_pow, decide_eq_true h, Bool.and_true]
        by_cases h1 : j = n
        · subst h1; simp
        · by_cases h2 : j = n + 1
          · subst h2; simp
          · rw [decide_eq_false (by omega), decide_eq_false (by omega), decide_eq_false (by omega)]
            rfl
      · rename_i h
        rw [decide_eq_false h]
        simp
    rw [key]
    by_cases h1 : j = n
    · subst h1
      simp
      by_cases h3 : Ld L j = 1 ∧ Ld L (j + 1) = 0
      · simp [h3]
      · by_cases h4 : 0 < j
        · have a1 : j - 1 < j := by omega
          have a2 : j - 1 < j + 1 := by omega
          simp [h3, h4, a1, a2]
          exact Bool.or_comm _ _
        · simp [h3, h4]
    · by_cases h2 : j = n + 1
      · subst h2
        simp
        intro hh
        omega
      · have e1 : decide (j < n + 1) = decide (j < n) := decide_eq_decide.mpr (by omega)
        have e2 : decide (0 < j ∧ j - 1 < n + 1) = decide (0 < j ∧ j - 1 < n) := decide_eq_decide.mpr (by omega)
        rw [e1, e2, decide_eq_false (show ¬ (j = n ∨ j = n + 1) by omega)]
        simp
theorem ringR_eq {L : LN} : ringR L (Ln L - 1) = ringL L := by
  apply Nat.eq_of_testBit_eq
  intro j
  unfold ringL
  rw [ringR_bit, testBit_bitsOf]
  by_cases hj : j < Ln L
  · rw [decide_eq_true hj]
    have e1 : decide (j < Ln L - 1) = decide (j + 1 < Ln L) := decide_eq_decide.mpr (by omega)
    have e2 : decide (0 < j ∧ j - 1 < Ln L - 1) = decide (0 < j) := decide_eq_decide.mpr (by omega)
    rw [e1, e2]
    by_cases a : j + 1 < Ln L <;> by_cases b : Ld L j = 1 <;> by_cases c : Ld L (j + 1) = 0 <;> by_cases d : 0 < j <;> by_cases e : Ld L j = 0 <;> by_cases f : Ld L (j - 1) = 1 <;> simp [a, b, c, d, e, f]
  · rw [decide_eq_false hj, decide_eq_false (show ¬ j < Ln L - 1 by omega), decide_eq_false (show ¬ (0 < j ∧ j - 1 < Ln L - 1) by omega)]
    rfl
def sumTo (f : Nat → Nat) : Nat → Nat
  | 0 => 0
  | n + 1 => sumTo f n + f n

set_option maxHeartbeats 4000000 in
set_option maxRecDepth 100000 in
theorem c_ringBits {cx : CX} (hI : xI cx) (l : Launch) {μ : ME} {b : Nat} {L : LN} {B : Nat} (hb7 : b + 7 ≤ xN cx) (hL : laneR cx μ b L) (hk : lok L B) : MT cx l yX0_ringBits cX0_ringBits 3 (some .int) 0 0 [.ref (xa cx b)] μ (Pi cx μ (nI (ringL L))) := by
  refine mt_of hI (by decide) (Nat.le_of_ble_eq_true rfl) ?_
  intro p e s m below meth c ls F hr hlk hW hl
  have hx := F.1.1
  have hb := F.1.2.1
  have hts := F.1.2.2.2.2
  obtain ⟨fk, fs, fg, fd, fl, fc, h0, h1, h2, h3, h4, h5, h6, hv, hv2⟩ := id hL
  have hn6 := hk.1
  have hU := lok_U hk
  have hk4 := hk.2.2.2.1
  have hl : lv_has ls 3 [(0, .ref (xa cx b))] := hl
  refine lv_iconst (v := nI 0) hx hb dX0_ringBits_0 (by decide) ?_
  refine lv_istore_n (lv' := [(1, .int (nI 0)), (0, .ref (xa cx b))]) hx hb dX0_ringBits_1 rfl hl (by decide) rfl (fun ls hl => ?_)
  refine lv_iconst (v := nI 0) hx hb dX0_ringBits_2 (by decide) ?_
  refine lv_istore_n (lv' := [(2, .int (nI 0)), (1, .int (nI 0)), (0, .ref (xa cx b))]) hx hb dX0_ringBits_3 rfl hl (by decide) rfl (fun ls hl => ?_)
  have LOOP : ∀ (d i : Nat)  (H : Heap) (locs : List Loc) (ls : Array Slot), i + d = Ln L - 1 → St cx s μ H locs → lv_has ls 3 [(0, .ref (xa cx b)), (1, .int (nI (ringR L i))), (2, .int (nI i))] → W p l e { frames := 0, cells := 0, slots := 0, locals := 0 } s m [.ref (xa cx b)].toArray below meth c H locs 0 0 (MQ below (Pi cx μ (nI (ringL L))) [.ref (xa cx b)].toArray s 0 0 (xA cx)) (F0 m 4 ls []) := by
    intro d
    induction d with
    | zero =>
      intro i   H locs ls hid  hW hl
      refine lv_iload_n hx hb dX0_ringBits_4 rfl (lv_at hl 2 rfl) ?_
      refine lv_iconst (v := nI 1) hx hb dX0_ringBits_5 (by decide) ?_
      refine nv_add F dX0_ringBits_6 ?_
      refine lv_aload_n hx hb dX0_ringBits_7 rfl (lv_at hl 0 rfl) ?_
      refine nv_get F hW (by omega) h0 rfl iX0 6 (by decide) tw_87 rfl dX0_ringBits_8 ?_
      refine nv_cge (tgt := 47) F (by omega) (by omega) dX0_ringBits_11 (by decide) (fun c_1 => ?_) (fun c_1 => ?_)
      · skip
        refine lv_iload_n hx hb dX0_ringBits_47 rfl (lv_at hl 1 rfl) ?_
        exact rt_ip F hr hlk hW (by rw [show i = Ln L - 1 by omega, ringR_eq]) rfl dX0_ringBits_48
      · skip
        exact absurd c_1 (by omega)
    | succ d ih =>
      intro i   H locs ls hid  hW hl
      refine lv_iload_n hx hb dX0_ringBits_4 rfl (lv_at hl 2 rfl) ?_
      refine lv_iconst (v := nI 1) hx hb dX0_ringBits_5 (by decide) ?_
      refine nv_add F dX0_ringBits_6 ?_
      refine lv_aload_n hx hb dX0_ringBits_7 rfl (lv_at hl 0 rfl) ?_
      refine nv_get F hW (by omega) h0 rfl iX0 6 (by decide) tw_87 rfl dX0_ringBits_8 ?_
      refine nv_cge (tgt := 47) F (by omega) (by omega) dX0_ringBits_11 (by decide) (fun c_2 => ?_) (fun c_2 => ?_)
      · skip
        exact absurd c_2 (by omega)
      · skip
        refine lv_aload_n hx hb dX0_ringBits_14 rfl (lv_at hl 0 rfl) ?_
        refine nv_get F hW (by omega) h0 rfl iX0 3 (by decide) tw_84 rfl dX0_ringBits_15 ?_
        refine lv_iload_n hx hb dX0_ringBits_18 rfl (lv_at hl 2 rfl) ?_
        refine nv_ialdN (x := ((nI (Ld L i)))) F hW (by omega) h4 (by omega) (by decide) (hv i (by omega)).2.2.2 dX0_ringBits_19 ?_
        refine lv_iconst (v := nI 1) hx hb dX0_ringBits_20 (by decide) ?_
        refine nv_cne (tgt := 41) F (by have := (hk4 i (by omega)).2.2.2; omega) (by omega) dX0_ringBits_21 (by decide) (fun c_3 => ?_) (fun c_3 => ?_)
        · skip
          refine lv_iinc (v := ((nI (i + 1)))) (lv' := [(2, .int (nI (i + 1))), (0, .ref (xa cx b)), (1, .int (nI (ringR L i)))]) hx hb dX0_ringBits_41 hl (k := 2) rfl (nI_add _ _) (by decide) rfl (fun ls hl => ?_)
          refine lv_goto (tgt := 4) hx hb dX0_ringBits_44 (by decide) ?_
          have e1 : ringR L (i + 1) = ringR L i := by show ringR L i ||| _ = _; rw [if_neg (fun q => by first | exact (‹¬ Ld L i = 1›) q.1 | exact (‹¬ Ld L (i + 1) = 0›) q.2), Nat.or_zero]
          exact ih (i + 1) _ _ _ (by omega) hW (by rw [e1]; exact lv_sub hl [1, 2, 0] rfl)
        · skip
          refine lv_aload_n hx hb dX0_ringBits_24 rfl (lv_at hl 0 rfl) ?_
          refine nv_get F hW (by omega) h0 rfl iX0 3 (by decide) tw_84 rfl dX0_ringBits_25 ?_
          refine lv_iload_n hx hb dX0_ringBits_28 rfl (lv_at hl 2 rfl) ?_
          refine lv_iconst (v := nI 1) hx hb dX0_ringBits_29 (by decide) ?_
          refine nv_add F dX0_ringBits_30 ?_
          refine nv_ialdN (x := ((nI (Ld L (i + 1))))) F hW (by omega) h4 (by omega) (by decide) (hv (i + 1) (by omega)).2.2.2 dX0_ringBits_31 ?_
          refine nv_zne (tgt := 41) F (by have := (hk4 (i + 1) (by omega)).2.2.2; omega) dX0_ringBits_32 (by decide) (fun c_4 => ?_) (fun c_4 => ?_)
          · skip
            refine lv_iinc (v := ((nI (i + 1)))) (lv' := [(2, .int (nI (i + 1))), (0, .ref (xa cx b)), (1, .int (nI (ringR L i)))]) hx hb dX0_ringBits_41 hl (k := 2) rfl (nI_add _ _) (by decide) rfl (fun ls hl => ?_)
            refine lv_goto (tgt := 4) hx hb dX0_ringBits_44 (by decide) ?_
            have e1 : ringR L (i + 1) = ringR L i := by show ringR L i ||| _ = _; rw [if_neg (fun q => by first | exact (‹¬ Ld L i = 1›) q.1 | exact (‹¬ Ld L (i + 1) = 0›) q.2), Nat.or_zero]
            exact ih (i + 1) _ _ _ (by omega) hW (by rw [e1]; exact lv_sub hl [1, 2, 0] rfl)
          · skip
            refine lv_iload_n hx hb dX0_ringBits_35 rfl (lv_at hl 1 rfl) ?_
            refine lv_iconst (v := nI 3) hx hb dX0_ringBits_36 (by decide) ?_
            refine lv_iload_n hx hb dX0_ringBits_37 rfl (lv_at hl 2 rfl) ?_
            refine nv_shl F (by omega) (by have := pow2_6 (show i < 6 by omega); omega) dX0_ringBits_38 ?_
            refine nv_or F dX0_ringBits_39 ?_
            refine lv_istore_n (lv' := [(1, .int (nI ((ringR L i) ||| (3 * 2 ^ i)))), (0, .ref (xa cx b)), (2, .int (nI i))]) hx hb dX0_ringBits_40 rfl hl (by decide) rfl (fun ls hl => ?_)
            refine lv_iinc (v := ((nI (i + 1)))) (lv' := [(2, .int (nI (i + 1))), (1, .int (nI ((ringR L i) ||| (3 * 2 ^ i)))), (0, .ref (xa cx b))]) hx hb dX0_ringBits_41 hl (k := 2) rfl (nI_add _ _) (by decide) rfl (fun ls hl => ?_)
            refine lv_goto (tgt := 4) hx hb dX0_ringBits_44 (by decide) ?_
            have e1 : ringR L (i + 1) = ringR L i ||| 3 * 2 ^ i := by show ringR L i ||| _ = _; rw [if_pos ⟨by assumption, by assumption⟩]
            exact ih (i + 1) _ _ _ (by omega) hW (by rw [e1]; exact lv_sub hl [2, 1, 0] rfl)
  exact LOOP (Ln L - 1) 0 _ _ _ (by omega) hW (lv_sub hl [2, 1, 0] rfl)

set_option maxHeartbeats 4000000 in
set_option maxRecDepth 100000 in
theorem c_allStones {cx : CX} (hI : xI cx) (l : Launch) {μ : ME} {b : Nat} {L : LN} {B : Nat} (hb7 : b + 7 ≤ xN cx) (hL : laneR cx μ b L) (hk : lok L B) (hB : B < 1000000000) : MT cx l yX0_allStones cX0_allStones 3 (some .int) 0 0 [.ref (xa cx b)] μ (Pi cx μ (nI (sumTo (Ls L) (Ln L)))) := by
  refine mt_of hI (by decide) (Nat.le_of_ble_eq_true rfl) ?_
  intro p e s m below meth c ls F hr hlk hW hl
  have hx := F.1.1
  have hb := F.1.2.1
  have hts := F.1.2.2.2.2
  obtain ⟨fk, fs, fg, fd, fl, fc, h0, h1, h2, h3, h4, h5, h6, hv, hv2⟩ := id hL
  have hn6 := hk.1
  have hU := lok_U hk
  have hk4 := hk.2.2.2.1
  have hl : lv_has ls 3 [(0, .ref (xa cx b))] := hl
  refine lv_iconst (v := nI 0) hx hb dX0_allStones_0 (by decide) ?_
  refine lv_istore_n (lv' := [(1, .int (nI 0)), (0, .ref (xa cx b))]) hx hb dX0_allStones_1 rfl hl (by decide) rfl (fun ls hl => ?_)
  refine lv_iconst (v := nI 0) hx hb dX0_allStones_2 (by decide) ?_
  refine lv_istore_n (lv' := [(2, .int (nI 0)), (1, .int (nI 0)), (0, .ref (xa cx b))]) hx hb dX0_allStones_3 rfl hl (by decide) rfl (fun ls hl => ?_)
  have LOOP : ∀ (d i : Nat)  (H : Heap) (locs : List Loc) (ls : Array Slot), i + d = Ln L → St cx s μ H locs → lv_has ls 3 [(0, .ref (xa cx b)), (1, .int (nI (sumTo (Ls L) i))), (2, .int (nI i))] → W p l e { frames := 0, cells := 0, slots := 0, locals := 0 } s m [.ref (xa cx b)].toArray below meth c H locs 0 0 (MQ below (Pi cx μ (nI (sumTo (Ls L) (Ln L)))) [.ref (xa cx b)].toArray s 0 0 (xA cx)) (F0 m 4 ls []) := by
    intro d
    induction d with
    | zero =>
      intro i   H locs ls hid  hW hl
      refine lv_iload_n hx hb dX0_allStones_4 rfl (lv_at hl 2 rfl) ?_
      refine lv_aload_n hx hb dX0_allStones_5 rfl (lv_at hl 0 rfl) ?_
      refine nv_get F hW (by omega) h0 rfl iX0 6 (by decide) tw_87 rfl dX0_allStones_6 ?_
      refine nv_cge (tgt := 27) F (by omega) (by omega) dX0_allStones_9 (by decide) (fun c_1 => ?_) (fun c_1 => ?_)
      · skip
        refine lv_iload_n hx hb dX0_allStones_27 rfl (lv_at hl 1 rfl) ?_
        exact rt_ip F hr hlk hW (by rw [show i = Ln L by omega]) rfl dX0_allStones_28
      · skip
        exact absurd c_1 (by omega)
    | succ d ih =>
      intro i   H locs ls hid  hW hl
      refine lv_iload_n hx hb dX0_allStones_4 rfl (lv_at hl 2 rfl) ?_
      refine lv_aload_n hx hb dX0_allStones_5 rfl (lv_at hl 0 rfl) ?_
      refine nv_get F hW (by omega) h0 rfl iX0 6 (by decide) tw_87 rfl dX0_allStones_6 ?_
      refine nv_cge (tgt := 27) F (by omega) (by omega) dX0_allStones_9 (by decide) (fun c_2 => ?_) (fun c_2 => ?_)
      · skip
        exact absurd c_2 (by omega)
      · skip
        refine lv_iload_n hx hb dX0_allStones_12 rfl (lv_at hl 1 rfl) ?_
        refine lv_aload_n hx hb dX0_allStones_13 rfl (lv_at hl 0 rfl) ?_
        refine nv_get F hW (by omega) h0 rfl iX0 1 (by decide) tw_82 rfl dX0_allStones_14 ?_
        refine lv_iload_n hx hb dX0_allStones_17 rfl (lv_at hl 2 rfl) ?_
        refine nv_ialdN (x := ((nI (Ls L i)))) F hW (by omega) h2 (by omega) (by decide) (hv i (by omega)).2.1 dX0_allStones_18 ?_
        refine nv_add F dX0_allStones_19 ?_
        refine lv_istore_n (lv' := [(1, .int (nI ((sumTo (Ls L) i) + (Ls L i)))), (0, .ref (xa cx b)), (2, .int (nI i))]) hx hb dX0_allStones_20 rfl hl (by decide) rfl (fun ls hl => ?_)
        refine lv_iinc (v := ((nI (i + 1)))) (lv' := [(2, .int (nI (i + 1))), (1, .int (nI ((sumTo (Ls L) i) + (Ls L i)))), (0, .ref (xa cx b))]) hx hb dX0_allStones_21 hl (k := 2) rfl (nI_add _ _) (by decide) rfl (fun ls hl => ?_)
        refine lv_goto (tgt := 4) hx hb dX0_allStones_24 (by decide) ?_
        exact ih (i + 1) _ _ _ (by omega) hW (lv_sub hl [2, 1, 0] rfl)
  exact LOOP (Ln L) 0 _ _ _ (by omega) hW (lv_sub hl [2, 1, 0] rfl)

set_option maxHeartbeats 4000000 in
set_option maxRecDepth 100000 in
theorem c_allGround {cx : CX} (hI : xI cx) (l : Launch) {μ : ME} {b : Nat} {L : LN} {B : Nat} (hb7 : b + 7 ≤ xN cx) (hL : laneR cx μ b L) (hk : lok L B) (hB : B < 1000000000) : MT cx l yX0_allGround cX0_allGround 3 (some .int) 3 63 [.ref (xa cx b)] μ (Pi cx μ (nI (sumTo (lgr L) (Ln L)))) := by
  refine mt_of hI (by decide) (Nat.le_of_ble_eq_true rfl) ?_
  intro p e s m below meth c ls F hr hlk hW hl
  have hx := F.1.1
  have hb := F.1.2.1
  have hts := F.1.2.2.2.2
  obtain ⟨fk, fs, fg, fd, fl, fc, h0, h1, h2, h3, h4, h5, h6, hv, hv2⟩ := id hL
  have hn6 := hk.1
  have hU := lok_U hk
  have hk4 := hk.2.2.2.1
  have hl : lv_has ls 3 [(0, .ref (xa cx b))] := hl
  refine lv_iconst (v := nI 0) hx hb dX0_allGround_0 (by decide) ?_
  refine lv_istore_n (lv' := [(1, .int (nI 0)), (0, .ref (xa cx b))]) hx hb dX0_allGround_1 rfl hl (by decide) rfl (fun ls hl => ?_)
  refine lv_iconst (v := nI 0) hx hb dX0_allGround_2 (by decide) ?_
  refine lv_istore_n (lv' := [(2, .int (nI 0)), (1, .int (nI 0)), (0, .ref (xa cx b))]) hx hb dX0_allGround_3 rfl hl (by decide) rfl (fun ls hl => ?_)
  have LOOP : ∀ (d i : Nat)  (H : Heap) (locs : List Loc) (ls : Array Slot), i + d = Ln L → St cx s μ H locs → lv_has ls 3 [(0, .ref (xa cx b)), (1, .int (nI (sumTo (lgr L) i))), (2, .int (nI i))] → W p l e { frames := 3, cells := 0, slots := 0, locals := 63 } s m [.ref (xa cx b)].toArray below meth c H locs 0 0 (MQ below (Pi cx μ (nI (sumTo (lgr L) (Ln L)))) [.ref (xa cx b)].toArray s 0 0 (xA cx)) (F0 m 4 ls []) := by
    intro d
    induction d with
    | zero =>
      intro i   H locs ls hid  hW hl
      refine lv_iload_n hx hb dX0_allGround_4 rfl (lv_at hl 2 rfl) ?_
      refine lv_aload_n hx hb dX0_allGround_5 rfl (lv_at hl 0 rfl) ?_
      refine nv_get F hW (by omega) h0 rfl iX0 6 (by decide) tw_87 rfl dX0_allGround_6 ?_
      refine nv_cge (tgt := 26) F (by omega) (by omega) dX0_allGround_9 (by decide) (fun c_1 => ?_) (fun c_1 => ?_)
      · skip
        refine lv_iload_n hx hb dX0_allGround_26 rfl (lv_at hl 1 rfl) ?_
        exact rt_ip F hr hlk hW (by rw [show i = Ln L by omega]) rfl dX0_allGround_27
      · skip
        exact absurd c_1 (by omega)
    | succ d ih =>
      intro i   H locs ls hid  hW hl
      refine lv_iload_n hx hb dX0_allGround_4 rfl (lv_at hl 2 rfl) ?_
      refine lv_aload_n hx hb dX0_allGround_5 rfl (lv_at hl 0 rfl) ?_
      refine nv_get F hW (by omega) h0 rfl iX0 6 (by decide) tw_87 rfl dX0_allGround_6 ?_
      refine nv_cge (tgt := 26) F (by omega) (by omega) dX0_allGround_9 (by decide) (fun c_2 => ?_) (fun c_2 => ?_)
      · skip
        exact absurd c_2 (by omega)
      · skip
        refine lv_iload_n hx hb dX0_allGround_12 rfl (lv_at hl 1 rfl) ?_
        refine lv_aload_n hx hb dX0_allGround_13 rfl (lv_at hl 0 rfl) ?_
        refine lv_iload_n hx hb dX0_allGround_14 rfl (lv_at hl 2 rfl) ?_
        refine cl_ip (cl_run (rest := [.int (nI (sumTo (lgr L) i))]) F hW e_X0_109 (c_groundOf hI l hb7 hL hk (by omega) i (by omega)) ⟨Nat.le_of_ble_eq_true rfl, Nat.le_of_ble_eq_true rfl⟩ (by omega) h0 rfl rfl rfl hl (Nat.le_of_ble_eq_true rfl) dX0_allGround_15 ⟨Nat.zero_le _, Nat.zero_le _⟩) hW (fun H locs hW => ?_)
        refine nv_add F dX0_allGround_18 ?_
        refine lv_istore_n (lv' := [(1, .int (nI ((sumTo (lgr L) i) + (lgr L i)))), (0, .ref (xa cx b)), (2, .int (nI i))]) hx hb dX0_allGround_19 rfl hl (by decide) rfl (fun ls hl => ?_)
        refine lv_iinc (v := ((nI (i + 1)))) (lv' := [(2, .int (nI (i + 1))), (1, .int (nI ((sumTo (lgr L) i) + (lgr L i)))), (0, .ref (xa cx b))]) hx hb dX0_allGround_20 hl (k := 2) rfl (nI_add _ _) (by decide) rfl (fun ls hl => ?_)
        refine lv_goto (tgt := 4) hx hb dX0_allGround_23 (by decide) ?_
        exact ih (i + 1) _ _ _ (by omega) hW (lv_sub hl [2, 1, 0] rfl)
  exact LOOP (Ln L) 0 _ _ _ (by omega) hW (lv_sub hl [2, 1, 0] rfl)

set_option maxHeartbeats 4000000 in
set_option maxRecDepth 100000 in
theorem c_monkLoad {cx : CX} (hI : xI cx) (l : Launch) {μ : ME} {b : Nat} {L : LN} {B : Nat} (hb7 : b + 7 ≤ xN cx) (hL : laneR cx μ b L) (hk : lok L B) (hB : B < 1000000000) : MT cx l yX0_monkLoad cX0_monkLoad 3 (some .int) 2 42 [.ref (xa cx b)] μ (Pi cx μ (nI (sumTo (fun h => if Ld L h = 2 then lgi L h else 0) (Ln L)))) := by
  refine mt_of hI (by decide) (Nat.le_of_ble_eq_true rfl) ?_
  intro p e s m below meth c ls F hr hlk hW hl
  have hx := F.1.1
  have hb := F.1.2.1
  have hts := F.1.2.2.2.2
  obtain ⟨fk, fs, fg, fd, fl, fc, h0, h1, h2, h3, h4, h5, h6, hv, hv2⟩ := id hL
  have hn6 := hk.1
  have hU := lok_U hk
  have hk4 := hk.2.2.2.1
  have hl : lv_has ls 3 [(0, .ref (xa cx b))] := hl
  refine lv_iconst (v := nI 0) hx hb dX0_monkLoad_0 (by decide) ?_
  refine lv_istore_n (lv' := [(1, .int (nI 0)), (0, .ref (xa cx b))]) hx hb dX0_monkLoad_1 rfl hl (by decide) rfl (fun ls hl => ?_)
  refine lv_iconst (v := nI 0) hx hb dX0_monkLoad_2 (by decide) ?_
  refine lv_istore_n (lv' := [(2, .int (nI 0)), (1, .int (nI 0)), (0, .ref (xa cx b))]) hx hb dX0_monkLoad_3 rfl hl (by decide) rfl (fun ls hl => ?_)
  have LOOP : ∀ (d i : Nat)  (H : Heap) (locs : List Loc) (ls : Array Slot), i + d = Ln L → St cx s μ H locs → lv_has ls 3 [(0, .ref (xa cx b)), (1, .int (nI (sumTo (fun h => if Ld L h = 2 then lgi L h else 0) i))), (2, .int (nI i))] → W p l e { frames := 2, cells := 0, slots := 0, locals := 42 } s m [.ref (xa cx b)].toArray below meth c H locs 0 0 (MQ below (Pi cx μ (nI (sumTo (fun h => if Ld L h = 2 then lgi L h else 0) (Ln L)))) [.ref (xa cx b)].toArray s 0 0 (xA cx)) (F0 m 4 ls []) := by
    intro d
    induction d with
    | zero =>
      intro i   H locs ls hid  hW hl
      refine lv_iload_n hx hb dX0_monkLoad_4 rfl (lv_at hl 2 rfl) ?_
      refine lv_aload_n hx hb dX0_monkLoad_5 rfl (lv_at hl 0 rfl) ?_
      refine nv_get F hW (by omega) h0 rfl iX0 6 (by decide) tw_87 rfl dX0_monkLoad_6 ?_
      refine nv_cge (tgt := 36) F (by omega) (by omega) dX0_monkLoad_9 (by decide) (fun c_1 => ?_) (fun c_1 => ?_)
      · skip
        refine lv_iload_n hx hb dX0_monkLoad_36 rfl (lv_at hl 1 rfl) ?_
        exact rt_ip F hr hlk hW (by rw [show i = Ln L by omega]) rfl dX0_monkLoad_37
      · skip
        exact absurd c_1 (by omega)
    | succ d ih =>
      intro i   H locs ls hid  hW hl
      refine lv_iload_n hx hb dX0_monkLoad_4 rfl (lv_at hl 2 rfl) ?_
      refine lv_aload_n hx hb dX0_monkLoad_5 rfl (lv_at hl 0 rfl) ?_
      refine nv_get F hW (by omega) h0 rfl iX0 6 (by decide) tw_87 rfl dX0_monkLoad_6 ?_
      refine nv_cge (tgt := 36) F (by omega) (by omega) dX0_monkLoad_9 (by decide) (fun c_2 => ?_) (fun c_2 => ?_)
      · skip
        exact absurd c_2 (by omega)
      · skip
        refine lv_aload_n hx hb dX0_monkLoad_12 rfl (lv_at hl 0 rfl) ?_
        refine lv_iload_n hx hb dX0_monkLoad_13 rfl (lv_at hl 2 rfl) ?_
        refine cl_ip (cl_run (rest := []) F hW e_X0_93 (c_supportOf hI l hb7 hL hk i (by omega)) ⟨Nat.le_of_ble_eq_true rfl, Nat.le_of_ble_eq_true rfl⟩ (by omega) h0 rfl rfl rfl hl (Nat.le_of_ble_eq_true rfl) dX0_monkLoad_14 ⟨Nat.zero_le _, Nat.zero_le _⟩) hW (fun H locs hW => ?_)
        refine lv_topi (fun x3 ex3 => ?_)
        refine lv_bipush (v := (-2)) hx hb dX0_monkLoad_17 (by decide) ?_
        refine lv_icmp_ne (tgt := 30) hx hb dX0_monkLoad_19 (by decide) (fun c_3 => ?_) (fun c_3 => ?_)
        · skip
          refine lv_iinc (v := ((nI (i + 1)))) (lv' := [(2, .int (nI (i + 1))), (0, .ref (xa cx b)), (1, .int (nI (sumTo (fun h => if Ld L h = 2 then lgi L h else 0) i)))]) hx hb dX0_monkLoad_30 hl (k := 2) rfl (nI_add _ _) (by decide) rfl (fun ls hl => ?_)
          refine lv_goto (tgt := 4) hx hb dX0_monkLoad_33 (by decide) ?_
          have e1 : sumTo (fun h => if Ld L h = 2 then lgi L h else 0) (i + 1) = sumTo (fun h => if Ld L h = 2 then lgi L h else 0) i := by show sumTo _ i + (if Ld L i = 2 then lgi L i else 0) = _; rw [if_neg (fun q => (‹¬ x3 = -2›) (ex3.trans ((sup_monk (hk4 i (by omega)).2.2.2 (by omega)).mpr q)))]; rfl
          exact ih (i + 1) _ _ _ (by omega) hW (by rw [e1]; exact lv_sub hl [1, 2, 0] rfl)
        · skip
          refine lv_iload_n hx hb dX0_monkLoad_22 rfl (lv_at hl 1 rfl) ?_
          refine lv_aload_n hx hb dX0_monkLoad_23 rfl (lv_at hl 0 rfl) ?_
          refine lv_iload_n hx hb dX0_monkLoad_24 rfl (lv_at hl 2 rfl) ?_
          refine cl_ip (cl_run (rest := [.int (nI (sumTo (fun h => if Ld L h = 2 then lgi L h else 0) i))]) F hW e_X0_76 (c_givesOf hI l hb7 hL hk (by omega) i (by omega)) ⟨Nat.le_of_ble_eq_true rfl, Nat.le_of_ble_eq_true rfl⟩ (by omega) h0 rfl rfl rfl hl (Nat.le_of_ble_eq_true rfl) dX0_monkLoad_25 ⟨Nat.zero_le _, Nat.zero_le _⟩) hW (fun H locs hW => ?_)
          refine nv_add F dX0_monkLoad_28 ?_
          refine lv_istore_n (lv' := [(1, .int (nI ((sumTo (fun h => if Ld L h = 2 then lgi L h else 0) i) + (lgi L i)))), (0, .ref (xa cx b)), (2, .int (nI i))]) hx hb dX0_monkLoad_29 rfl hl (by decide) rfl (fun ls hl => ?_)
          refine lv_iinc (v := ((nI (i + 1)))) (lv' := [(2, .int (nI (i + 1))), (1, .int (nI ((sumTo (fun h => if Ld L h = 2 then lgi L h else 0) i) + (lgi L i)))), (0, .ref (xa cx b))]) hx hb dX0_monkLoad_30 hl (k := 2) rfl (nI_add _ _) (by decide) rfl (fun ls hl => ?_)
          refine lv_goto (tgt := 4) hx hb dX0_monkLoad_33 (by decide) ?_
          have e1 : sumTo (fun h => if Ld L h = 2 then lgi L h else 0) (i + 1) = sumTo (fun h => if Ld L h = 2 then lgi L h else 0) i + lgi L i := by show sumTo _ i + (if Ld L i = 2 then lgi L i else 0) = _; rw [if_pos ((sup_monk (hk4 i (by omega)).2.2.2 (by omega)).mp (ex3.symm.trans (by assumption)))]
          exact ih (i + 1) _ _ _ (by omega) hW (by rw [e1]; exact lv_sub hl [2, 1, 0] rfl)
  exact LOOP (Ln L) 0 _ _ _ (by omega) hW (lv_sub hl [2, 1, 0] rfl)
