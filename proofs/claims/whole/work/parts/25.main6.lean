theorem ord_mv : ∀ n, n < 5 → ∀ c, c < 256 → ordB n c = true → ∀ i, i < n → mv n c i < n := by decide +kernel
theorem p44 {n : Nat} (h : n ≤ 4) : 4 ^ n ≤ 256 := by
  rcases (show n = 0 ∨ n = 1 ∨ n = 2 ∨ n = 3 ∨ n = 4 by omega) with rfl | rfl | rfl | rfl | rfl <;> decide
theorem numR_9 (n c : Nat) (hn : n ≤ 4) : ¬ nI (numR n c n) = -9 := nI_ne (by have h := numR_lt n c n; have : 10 ^ (n + 1) ≤ 10 ^ 5 := Nat.pow_le_pow_right (by decide) (by omega); omega) (by decide)

set_option maxHeartbeats 4000000 in
set_option maxRecDepth 100000 in
theorem k_orders {cx : CX} (hI : xI cx) (l : Launch) {μ : ME} {S : AS} {B : Nat} (hN : 136 ≤ xN cx) (hM : mainR cx μ S) (hA : aok S B) (hB : B < 800000) (n : Int32) (x : Int64) (w : Int32) : MT cx l yX4_orders cX4_orders 8 (some .int) 5 140 [.ref (xa cx 0), .int n, .long (x), .int w] μ (Ei cx (r_orders S n x w) (fun μ1 => mainR cx μ1 S ∧ off 0 136 μ μ1)) := by
  refine mt_of hI (by decide) (Nat.le_of_ble_eq_true rfl) ?_
  intro p e s m below meth c ls F hr hlk hW hl
  have hx := F.1.1
  have hb := F.1.2.1
  have hts := F.1.2.2.2.2
  obtain ⟨m0, hT, hL, ⟨LT, hLT⟩, hPa, hSe, hSl⟩ := id hM
  have hk := hA.2.1
  have hn6 := hk.1
  have h3b : 3 + 7 ≤ xN cx := by omega
  have h10b : 10 + 7 ≤ xN cx := by omega
  obtain ⟨_, _, _, _, _, _, o3, -⟩ := id hL
  obtain ⟨_, _, _, _, _, _, o10, -⟩ := id hLT
  obtain ⟨_, o1, -⟩ := id hT
  obtain ⟨_, _, o17, -⟩ := id hPa
  obtain ⟨_, _, _, o117, -⟩ := id hSe
  obtain ⟨⟨gs, o121, hgs⟩, hsl2, hsl3⟩ := id hSl
  have hl : lv_has ls 8 [(0, .ref (xa cx 0)), (1, .int n), (2, .long (x)), (4, .int w)] := hl
  refine lv_iload_n hx hb dX4_orders_0 rfl (lv_at hl 1 rfl) ?_
  refine lv_iconst (v := nI 1) hx hb dX4_orders_1 (by decide) ?_
  refine lv_icmp_lt (tgt := 27) hx hb dX4_orders_2 (by decide) (fun c_1 => ?_) (fun c_1 => ?_)
  · skip
    refine lv_bipush (v := (-2)) hx hb dX4_orders_27 (by decide) ?_
    exact rt_ie F hr hlk hW (by unfold r_orders; rw [show (c14 _ && halI w && movB (AL S) _ x) = false by first | (rw [c14_lo (by assumption)]; rfl) | (rw [c14_hi (by assumption)]; rfl) | (rw [‹halI w = false›]; simp; done) | (rw [nI_clamp (by omega), ‹movB (AL S) mm x = false›, Bool.and_false])]; rfl) ⟨hM, off_rf⟩ dX4_orders_29
  · skip
    refine lv_iload_n hx hb dX4_orders_5 rfl (lv_at hl 1 rfl) ?_
    refine lv_iconst (v := nI 4) hx hb dX4_orders_6 (by decide) ?_
    refine lv_icmp_gt (tgt := 27) hx hb dX4_orders_7 (by decide) (fun c_2 => ?_) (fun c_2 => ?_)
    · skip
      refine lv_bipush (v := (-2)) hx hb dX4_orders_27 (by decide) ?_
      exact rt_ie F hr hlk hW (by unfold r_orders; rw [show (c14 _ && halI w && movB (AL S) _ x) = false by first | (rw [c14_lo (by assumption)]; rfl) | (rw [c14_hi (by assumption)]; rfl) | (rw [‹halI w = false›]; simp; done) | (rw [nI_clamp (by omega), ‹movB (AL S) mm x = false›, Bool.and_false])]; rfl) ⟨hM, off_rf⟩ dX4_orders_29
    · skip
      obtain ⟨mm, hm1, hm4, rfl⟩ := c14_of (c14_in c_1 c_2)
      refine lv_iload hx hb dX4_orders_10 (lv_at hl 3 rfl) ?_
      refine cl_ip (cl_runS (rest := []) F hW e_X4_135 (c_isHalf hI l w) ⟨Nat.le_of_ble_eq_true rfl, Nat.le_of_ble_eq_true rfl⟩ rfl rfl hl (Nat.le_of_ble_eq_true rfl) dX4_orders_12 ⟨Nat.zero_le _, Nat.zero_le _⟩) hW (fun H locs hW => ?_)
      refine nv_beq (tgt := 27) F dX4_orders_15 (by decide) (fun c_3 => ?_) (fun c_3 => ?_)
      · skip
        refine lv_bipush (v := (-2)) hx hb dX4_orders_27 (by decide) ?_
        exact rt_ie F hr hlk hW (by unfold r_orders; rw [show (c14 _ && halI w && movB (AL S) _ x) = false by first | (rw [c14_lo (by assumption)]; rfl) | (rw [c14_hi (by assumption)]; rfl) | (rw [‹halI w = false›]; simp; done) | (rw [nI_clamp (by omega), ‹movB (AL S) mm x = false›, Bool.and_false])]; rfl) ⟨hM, off_rf⟩ dX4_orders_29
      · skip
        refine lv_aload_n hx hb dX4_orders_18 rfl (lv_at hl 0 rfl) ?_
        refine lv_iload_n hx hb dX4_orders_19 rfl (lv_at hl 1 rfl) ?_
        refine lv_lload_n hx hb dX4_orders_20 rfl (lv_at hl 2 rfl) ?_
        refine cl_ip (cl_run (rest := []) F hW e_X4_151 (c_areMoves hI l hN hM hA hB mm (by omega) (by omega) x) ⟨Nat.le_of_ble_eq_true rfl, Nat.le_of_ble_eq_true rfl⟩ (by omega) m0 rfl rfl rfl hl (Nat.le_of_ble_eq_true rfl) dX4_orders_21 ⟨Nat.zero_le _, Nat.zero_le _⟩) hW (fun H locs hW => ?_)
        refine nv_bne (tgt := 30) F dX4_orders_24 (by decide) (fun c_4 => ?_) (fun c_4 => ?_)
        · skip
          have hmb : movB (AL S) mm x = true := c_4
          have hfg : figs x (3 * mm) = true := by unfold movB at hmb; simp only [Bool.and_eq_true] at hmb; exact hmb.1
          obtain ⟨r, hr9, rfl⟩ := figs_get hfg
          have h256 := p44 hm4
          refine lv_iconst (v := nI 0) hx hb dX4_orders_30 (by decide) ?_
          refine lv_istore (lv' := [(5, .int (nI 0)), (0, .ref (xa cx 0)), (1, .int (nI mm)), (2, .long (lN r)), (4, .int w)]) hx hb dX4_orders_31 hl (by decide) rfl (fun ls hl => ?_)
          refine lv_bipush (v := (-9)) hx hb dX4_orders_33 (by decide) ?_
          refine lv_istore (lv' := [(6, .int ((-9))), (5, .int (nI 0)), (0, .ref (xa cx 0)), (1, .int (nI mm)), (2, .long (lN r)), (4, .int w)]) hx hb dX4_orders_35 hl (by decide) rfl (fun ls hl => ?_)
          refine lv_iconst (v := nI 0) hx hb dX4_orders_37 (by decide) ?_
          refine lv_istore (lv' := [(7, .int (nI 0)), (6, .int ((-9))), (5, .int (nI 0)), (0, .ref (xa cx 0)), (1, .int (nI mm)), (2, .long (lN r)), (4, .int w)]) hx hb dX4_orders_38 hl (by decide) rfl (fun ls hl => ?_)
          have LOOP : ∀ (d i : Nat) (LT1 : LN) (μ1 : ME) (H : Heap) (locs : List Loc) (ls : Array Slot), i + d = 4 ^ mm → (laneR cx μ1 10 LT1) → (off 10 7 μ μ1) → St cx s μ1 H locs → lv_has ls 8 [(0, .ref (xa cx 0)), (1, .int (nI mm)), (2, .long (lN r)), (4, .int w), (5, .int (nI (cntO (AL S) mm r i))), (6, .int (fstO (AL S) mm r i)), (7, .int (nI i))] → W p l e { frames := 5, cells := 0, slots := 0, locals := 140 } s m [.ref (xa cx 0), .int (nI mm), .long (lN r), .int w].toArray below meth c H locs 0 0 (MQ below (Ei cx (r_orders S (nI mm) (lN r) w) (fun μ1 => mainR cx μ1 S ∧ off 0 136 μ μ1)) [.ref (xa cx 0), .int (nI mm), .long (lN r), .int w].toArray s 0 0 (xA cx)) (F0 m 40 ls []) := by
            intro d
            induction d with
            | zero =>
              intro i LT1 μ1 H locs ls hid hLi ho1 hW hl
              have p0 := (ho1 0 (by omega)).trans m0
              have p3 := (ho1 3 (by omega)).trans o3
              have p117 := (ho1 117 (by omega)).trans o117
              obtain ⟨_, _, _, _, _, _, p10, -⟩ := id hLi
              have hLx := laneR_off hL ho1 (by omega)
              refine lv_iload hx hb dX4_orders_40 (lv_at hl 6 rfl) ?_
              refine lv_iconst (v := nI 1) hx hb dX4_orders_42 (by decide) ?_
              refine lv_iconst (v := nI 2) hx hb dX4_orders_43 (by decide) ?_
              refine lv_iload_n hx hb dX4_orders_44 rfl (lv_at hl 1 rfl) ?_
              refine nv_mul F dX4_orders_45 ?_
              refine nv_shl F (by omega) (by rw [Nat.one_mul, Nat.pow_mul]; show 4 ^ mm < _; omega) dX4_orders_46 ?_
              refine nv_top (y := ((nI (4 ^ mm)))) (by rw [Nat.one_mul, Nat.pow_mul]) ?_
              refine nv_cge (tgt := 99) F (by omega) (by omega) dX4_orders_47 (by decide) (fun c_5 => ?_) (fun c_5 => ?_)
              · skip
                refine lv_iload hx hb dX4_orders_99 (lv_at hl 3 rfl) ?_
                refine lv_if_ne (tgt := 109) hx hb dX4_orders_101 (by decide) (fun c_6 => ?_) (fun c_6 => ?_)
                · skip
                  refine lv_iload hx hb dX4_orders_109 (lv_at hl 5 rfl) ?_
                  have hoz : off 10 7 μ μ1 := (fun z hz => by rw [ho1 z (by omega)])
                  exact rt_ie F hr hlk hW (by have hin : i = 4 ^ mm := (by omega); unfold r_orders; rw [c14_nI hm1 hm4, ‹halI w = true›, nI_clamp (by omega), hmb, lN_tn hr9, ← hin]; show _ = (if w = nI 0 then _ else _); first | (rw [if_pos (by assumption)]; done) | (rw [if_neg (by assumption)]; done)) ⟨mainR_trial hM hoz ⟨_, hLi⟩, off_big hoz (by omega)⟩ dX4_orders_111
                · skip
                  refine lv_iload hx hb dX4_orders_104 (lv_at hl 4 rfl) ?_
                  refine lv_goto (tgt := 111) hx hb dX4_orders_106 (by decide) ?_
                  have hoz : off 10 7 μ μ1 := (fun z hz => by rw [ho1 z (by omega)])
                  exact rt_ie F hr hlk hW (by have hin : i = 4 ^ mm := (by omega); unfold r_orders; rw [c14_nI hm1 hm4, ‹halI w = true›, nI_clamp (by omega), hmb, lN_tn hr9, ← hin]; show _ = (if w = nI 0 then _ else _); first | (rw [if_pos (by assumption)]; done) | (rw [if_neg (by assumption)]; done)) ⟨mainR_trial hM hoz ⟨_, hLi⟩, off_big hoz (by omega)⟩ dX4_orders_111
              · skip
                exact absurd c_5 (by omega)
            | succ d ih =>
              intro i LT1 μ1 H locs ls hid hLi ho1 hW hl
              have p0 := (ho1 0 (by omega)).trans m0
              have p3 := (ho1 3 (by omega)).trans o3
              have p117 := (ho1 117 (by omega)).trans o117
              obtain ⟨_, _, _, _, _, _, p10, -⟩ := id hLi
              have hLx := laneR_off hL ho1 (by omega)
              refine lv_iload hx hb dX4_orders_40 (lv_at hl 6 rfl) ?_
              refine lv_iconst (v := nI 1) hx hb dX4_orders_42 (by decide) ?_
              refine lv_iconst (v := nI 2) hx hb dX4_orders_43 (by decide) ?_
              refine lv_iload_n hx hb dX4_orders_44 rfl (lv_at hl 1 rfl) ?_
              refine nv_mul F dX4_orders_45 ?_
              refine nv_shl F (by omega) (by rw [Nat.one_mul, Nat.pow_mul]; show 4 ^ mm < _; omega) dX4_orders_46 ?_
              refine nv_top (y := ((nI (4 ^ mm)))) (by rw [Nat.one_mul, Nat.pow_mul]) ?_
              refine nv_cge (tgt := 99) F (by omega) (by omega) dX4_orders_47 (by decide) (fun c_7 => ?_) (fun c_7 => ?_)
              · skip
                exact absurd c_7 (by omega)
              · skip
                refine lv_iload_n hx hb dX4_orders_50 rfl (lv_at hl 1 rfl) ?_
                refine lv_iload hx hb dX4_orders_51 (lv_at hl 6 rfl) ?_
                refine cl_ip (cl_runS (rest := []) F hW e_X4_155 (c_isOrder hI l mm i (by omega) (by omega)) ⟨Nat.le_of_ble_eq_true rfl, Nat.le_of_ble_eq_true rfl⟩ rfl rfl hl (Nat.le_of_ble_eq_true rfl) dX4_orders_53 ⟨Nat.zero_le _, Nat.zero_le _⟩) hW (fun H locs hW => ?_)
                refine nv_beq (tgt := 93) F dX4_orders_56 (by decide) (fun c_8 => ?_) (fun c_8 => ?_)
                · skip
                  refine lv_iinc (v := ((nI (i + 1)))) (lv' := [(7, .int (nI (i + 1))), (0, .ref (xa cx 0)), (1, .int (nI mm)), (2, .long (lN r)), (4, .int w), (5, .int (nI (cntO (AL S) mm r i))), (6, .int (fstO (AL S) mm r i))]) hx hb dX4_orders_93 hl (k := 6) rfl (nI_add _ _) (by decide) rfl (fun ls hl => ?_)
                  refine lv_goto (tgt := 40) hx hb dX4_orders_96 (by decide) ?_
                  have hok : okC (AL S) mm r i = false := by unfold okC; first | (rw [‹ordB mm i = false›]; rfl) | (rw [‹sfB (AL S) mm r i mm = false›, Bool.and_false])
                  have e5 : cntO (AL S) mm r (i + 1) = cntO (AL S) mm r i := by show _ + (if okC (AL S) mm r i = true then 1 else 0) = _; rw [if_neg (by rw [hok]; decide)]; rfl
                  have e6 : fstO (AL S) mm r (i + 1) = fstO (AL S) mm r i := by show (if okC (AL S) mm r i = true then _ else _) = _; rw [if_neg (by rw [hok]; decide)]
                  exact ih (i + 1) _ μ1 _ _ _ (by omega) hLi (fun z hz => by rw [ho1 z (by omega)]) hW (by rw [e5, e6]; exact lv_sub hl [1, 2, 3, 4, 5, 6, 0] rfl)
                · skip
                  refine lv_aload_n hx hb dX4_orders_59 rfl (lv_at hl 0 rfl) ?_
                  refine lv_iload_n hx hb dX4_orders_60 rfl (lv_at hl 1 rfl) ?_
                  refine lv_lload_n hx hb dX4_orders_61 rfl (lv_at hl 2 rfl) ?_
                  refine lv_iload hx hb dX4_orders_62 (lv_at hl 6 rfl) ?_
                  refine cl_ie (cl_run (rest := []) F hW e_X4_158 (c_isSafeOrder hI l hN (mainR_trial hM (fun z hz => by rw [ho1 z (by omega)]) ⟨_, hLi⟩) hA hB mm r i (by omega) (by omega) hr9 (by omega) (ord_mv mm (by omega) i (by omega) ‹ordB mm i = true›)) ⟨Nat.le_of_ble_eq_true rfl, Nat.le_of_ble_eq_true rfl⟩ (by omega) p0 rfl rfl rfl hl (Nat.le_of_ble_eq_true rfl) dX4_orders_64 ⟨Nat.zero_le _, Nat.zero_le _⟩) hW (fun μ9 H locs q_9 hW => ?_)
                  obtain ⟨⟨L1_9, hL_9⟩, ho_9⟩ := q_9
                  obtain ⟨_, _, _, _, _, _, o10_9, -⟩ := id hL_9
                  have o0_9 := (ho_9 0 (by omega)).trans p0
                  have o3_9 := (ho_9 3 (by omega)).trans p3
                  have o117_9 := (ho_9 117 (by omega)).trans p117
                  have hLx3_9 := laneR_off hLx ho_9 (by omega)
                  refine nv_beq (tgt := 93) F dX4_orders_67 (by decide) (fun c_10 => ?_) (fun c_10 => ?_)
                  · skip
                    refine lv_iinc (v := ((nI (i + 1)))) (lv' := [(7, .int (nI (i + 1))), (0, .ref (xa cx 0)), (1, .int (nI mm)), (2, .long (lN r)), (4, .int w), (5, .int (nI (cntO (AL S) mm r i))), (6, .int (fstO (AL S) mm r i))]) hx hb dX4_orders_93 hl (k := 6) rfl (nI_add _ _) (by decide) rfl (fun ls hl => ?_)
                    refine lv_goto (tgt := 40) hx hb dX4_orders_96 (by decide) ?_
                    have hok : okC (AL S) mm r i = false := by unfold okC; first | (rw [‹ordB mm i = false›]; rfl) | (rw [‹sfB (AL S) mm r i mm = false›, Bool.and_false])
                    have e5 : cntO (AL S) mm r (i + 1) = cntO (AL S) mm r i := by show _ + (if okC (AL S) mm r i = true then 1 else 0) = _; rw [if_neg (by rw [hok]; decide)]; rfl
                    have e6 : fstO (AL S) mm r (i + 1) = fstO (AL S) mm r i := by show (if okC (AL S) mm r i = true then _ else _) = _; rw [if_neg (by rw [hok]; decide)]
                    exact ih (i + 1) _ μ9 _ _ _ (by omega) hL_9 (fun z hz => by rw [ho_9 z (by omega)]; rw [ho1 z (by omega)]) hW (by rw [e5, e6]; exact lv_sub hl [1, 2, 3, 4, 5, 6, 0] rfl)
                  · skip
                    refine lv_iinc (v := ((nI (cntO (AL S) mm r i + 1)))) (lv' := [(5, .int (nI (cntO (AL S) mm r i + 1))), (0, .ref (xa cx 0)), (1, .int (nI mm)), (2, .long (lN r)), (4, .int w), (6, .int (fstO (AL S) mm r i)), (7, .int (nI i))]) hx hb dX4_orders_70 hl (k := 4) rfl (nI_add _ _) (by decide) rfl (fun ls hl => ?_)
                    refine lv_iload hx hb dX4_orders_73 (lv_at hl 5 rfl) ?_
                    refine lv_bipush (v := (-9)) hx hb dX4_orders_75 (by decide) ?_
                    refine lv_icmp_ne (tgt := 89) hx hb dX4_orders_77 (by decide) (fun c_11 => ?_) (fun c_11 => ?_)
                    · skip
                      refine lv_iload hx hb dX4_orders_89 (lv_at hl 5 rfl) ?_
                      refine lv_istore (lv' := [(6, .int (fstO (AL S) mm r i)), (5, .int (nI (cntO (AL S) mm r i + 1))), (0, .ref (xa cx 0)), (1, .int (nI mm)), (2, .long (lN r)), (4, .int w), (7, .int (nI i))]) hx hb dX4_orders_91 hl (by decide) rfl (fun ls hl => ?_)
                      refine lv_iinc (v := ((nI (i + 1)))) (lv' := [(7, .int (nI (i + 1))), (6, .int (fstO (AL S) mm r i)), (5, .int (nI (cntO (AL S) mm r i + 1))), (0, .ref (xa cx 0)), (1, .int (nI mm)), (2, .long (lN r)), (4, .int w)]) hx hb dX4_orders_93 hl (k := 6) rfl (nI_add _ _) (by decide) rfl (fun ls hl => ?_)
                      refine lv_goto (tgt := 40) hx hb dX4_orders_96 (by decide) ?_
                      have hok : okC (AL S) mm r i = true := by unfold okC; rw [‹ordB mm i = true›, ‹sfB (AL S) mm r i mm = true›]; rfl
                      have e5 : cntO (AL S) mm r (i + 1) = cntO (AL S) mm r i + 1 := by show _ + (if okC (AL S) mm r i = true then 1 else 0) = _; rw [if_pos hok]
                      have e6 : fstO (AL S) mm r (i + 1) = fstO (AL S) mm r i := by show (if okC (AL S) mm r i = true then _ else _) = _; rw [if_pos hok, if_neg (by assumption)]
                      exact ih (i + 1) _ μ9 _ _ _ (by omega) hL_9 (fun z hz => by rw [ho_9 z (by omega)]; rw [ho1 z (by omega)]) hW (by rw [e5, e6]; exact lv_sub hl [3, 4, 5, 6, 2, 1, 0] rfl)
                    · skip
                      refine lv_iload_n hx hb dX4_orders_80 rfl (lv_at hl 2 rfl) ?_
                      refine lv_iload hx hb dX4_orders_81 (lv_at hl 6 rfl) ?_
                      refine cl_ip (cl_runS (rest := []) F hW e_X4_162 (c_orderNumber hI l mm i (by omega) (by omega)) ⟨Nat.le_of_ble_eq_true rfl, Nat.le_of_ble_eq_true rfl⟩ rfl rfl hl (Nat.le_of_ble_eq_true rfl) dX4_orders_83 ⟨Nat.zero_le _, Nat.zero_le _⟩) hW (fun H locs hW => ?_)
                      refine lv_goto (tgt := 91) hx hb dX4_orders_86 (by decide) ?_
                      refine lv_istore (lv' := [(6, .int (nI (numR mm i mm))), (5, .int (nI (cntO (AL S) mm r i + 1))), (0, .ref (xa cx 0)), (1, .int (nI mm)), (2, .long (lN r)), (4, .int w), (7, .int (nI i))]) hx hb dX4_orders_91 hl (by decide) rfl (fun ls hl => ?_)
                      refine lv_iinc (v := ((nI (i + 1)))) (lv' := [(7, .int (nI (i + 1))), (6, .int (nI (numR mm i mm))), (5, .int (nI (cntO (AL S) mm r i + 1))), (0, .ref (xa cx 0)), (1, .int (nI mm)), (2, .long (lN r)), (4, .int w)]) hx hb dX4_orders_93 hl (k := 6) rfl (nI_add _ _) (by decide) rfl (fun ls hl => ?_)
                      refine lv_goto (tgt := 40) hx hb dX4_orders_96 (by decide) ?_
                      have hok : okC (AL S) mm r i = true := by unfold okC; rw [‹ordB mm i = true›, ‹sfB (AL S) mm r i mm = true›]; rfl
                      have e5 : cntO (AL S) mm r (i + 1) = cntO (AL S) mm r i + 1 := by show _ + (if okC (AL S) mm r i = true then 1 else 0) = _; rw [if_pos hok]
                      have e6 : fstO (AL S) mm r (i + 1) = nI (numR mm i mm) := by show (if okC (AL S) mm r i = true then _ else _) = _; rw [if_pos hok, if_pos (by assumption)]
                      exact ih (i + 1) _ μ9 _ _ _ (by omega) hL_9 (fun z hz => by rw [ho_9 z (by omega)]; rw [ho1 z (by omega)]) hW (by rw [e5, e6]; exact lv_sub hl [3, 4, 5, 6, 2, 1, 0] rfl)
          exact LOOP (4 ^ mm) 0 LT μ _ _ _ (by omega) hLT off_rf hW (lv_sub hl [3, 4, 5, 6, 2, 1, 0] rfl)
        · skip
          refine lv_bipush (v := (-2)) hx hb dX4_orders_27 (by decide) ?_
          exact rt_ie F hr hlk hW (by unfold r_orders; rw [show (c14 _ && halI w && movB (AL S) _ x) = false by first | (rw [c14_lo (by assumption)]; rfl) | (rw [c14_hi (by assumption)]; rfl) | (rw [‹halI w = false›]; simp; done) | (rw [nI_clamp (by omega), ‹movB (AL S) mm x = false›, Bool.and_false])]; rfl) ⟨hM, off_rf⟩ dX4_orders_29

def piB (L : LN) (p h : Nat) : Bool := lst L h && (canA L h p && calm 6 (addS L h p))
def r_piano (S : AS) (p : Int32) : Int32 := if carI p then nI (bitsOf (piB (AL S) p.toNatClampNeg) (Ln (AL S))) else -2

set_option maxHeartbeats 4000000 in
set_option maxRecDepth 100000 in
theorem k_piano {cx : CX} (hI : xI cx) (l : Launch) {μ : ME} {S : AS} {B : Nat} (hN : 136 ≤ xN cx) (hM : mainR cx μ S) (hA : aok S B) (hB : B < 800000) (pp : Int32) : MT cx l yX4_piano cX4_piano 4 (some .int) 4 137 [.ref (xa cx 0), .int pp] μ (Ei cx (r_piano S pp) (fun μ1 => mainR cx μ1 S ∧ off 0 136 μ μ1)) := by
  refine mt_of hI (by decide) (Nat.le_of_ble_eq_true rfl) ?_
  intro p e s m below meth c ls F hr hlk hW hl
  have hx := F.1.1
  have hb := F.1.2.1
  have hts := F.1.2.2.2.2
  obtain ⟨m0, hT, hL, ⟨LT, hLT⟩, hPa, hSe, hSl⟩ := id hM
  have hk := hA.2.1
  have hn6 := hk.1
  have h3b : 3 + 7 ≤ xN cx := by omega
  have h10b : 10 + 7 ≤ xN cx := by omega
  obtain ⟨_, _, _, _, _, _, o3, -⟩ := id hL
  obtain ⟨_, _, _, _, _, _, o10, -⟩ := id hLT
  obtain ⟨_, o1, -⟩ := id hT
  obtain ⟨_, _, o17, -⟩ := id hPa
  obtain ⟨_, _, _, o117, -⟩ := id hSe
  obtain ⟨⟨gs, o121, hgs⟩, hsl2, hsl3⟩ := id hSl
  have hl : lv_has ls 4 [(0, .ref (xa cx 0)), (1, .int pp)] := hl
  refine lv_iload_n hx hb dX4_piano_0 rfl (lv_at hl 1 rfl) ?_
  refine cl_ip (cl_runS (rest := []) F hW e_X4_106 (c_isCarried hI l pp) ⟨Nat.le_of_ble_eq_true rfl, Nat.le_of_ble_eq_true rfl⟩ rfl rfl hl (Nat.le_of_ble_eq_true rfl) dX4_piano_1 ⟨Nat.zero_le _, Nat.zero_le _⟩) hW (fun H locs hW => ?_)
  refine nv_bne (tgt := 10) F dX4_piano_4 (by decide) (fun c_1 => ?_) (fun c_1 => ?_)
  · skip
    obtain ⟨u, hu1, hu9, rfl⟩ := carI_of c_1
    refine lv_iconst (v := nI 0) hx hb dX4_piano_10 (by decide) ?_
    refine lv_istore_n (lv' := [(2, .int (nI 0)), (0, .ref (xa cx 0)), (1, .int (nI u))]) hx hb dX4_piano_11 rfl hl (by decide) rfl (fun ls hl => ?_)
    refine lv_iconst (v := nI 0) hx hb dX4_piano_12 (by decide) ?_
    refine lv_istore_n (lv' := [(3, .int (nI 0)), (2, .int (nI 0)), (0, .ref (xa cx 0)), (1, .int (nI u))]) hx hb dX4_piano_13 rfl hl (by decide) rfl (fun ls hl => ?_)
    have LOOP : ∀ (d i : Nat) (LT1 : LN) (μ1 : ME) (H : Heap) (locs : List Loc) (ls : Array Slot), i + d = Ln (AL S) → (laneR cx μ1 10 LT1) → (off 10 7 μ μ1) → St cx s μ1 H locs → lv_has ls 4 [(0, .ref (xa cx 0)), (1, .int (nI u)), (2, .int (nI (bitsOf (piB (AL S) u) i))), (3, .int (nI i))] → W p l e { frames := 4, cells := 0, slots := 0, locals := 137 } s m [.ref (xa cx 0), .int (nI u)].toArray below meth c H locs 0 0 (MQ below (Ei cx (r_piano S (nI u)) (fun μ1 => mainR cx μ1 S ∧ off 0 136 μ μ1)) [.ref (xa cx 0), .int (nI u)].toArray s 0 0 (xA cx)) (F0 m 14 ls []) := by
      intro d
      induction d with
      | zero =>
        intro i LT1 μ1 H locs ls hid hLi ho1 hW hl
        have p0 := (ho1 0 (by omega)).trans m0
        have p3 := (ho1 3 (by omega)).trans o3
        have p117 := (ho1 117 (by omega)).trans o117
        obtain ⟨_, _, _, _, _, _, p10, -⟩ := id hLi
        have hLx := laneR_off hL ho1 (by omega)
        refine lv_iload_n hx hb dX4_piano_14 rfl (lv_at hl 3 rfl) ?_
        refine lv_aload_n hx hb dX4_piano_15 rfl (lv_at hl 0 rfl) ?_
        refine nv_get F hW (by omega) p0 rfl iX4 1 (by decide) tw_149 rfl dX4_piano_16 ?_
        refine cl_ip (cl_run (rest := [.int (nI i)]) F hW e_X4_68 (c_size hI l h3b hLx hk) ⟨Nat.le_of_ble_eq_true rfl, Nat.le_of_ble_eq_true rfl⟩ (by omega) p3 rfl rfl rfl hl (Nat.le_of_ble_eq_true rfl) dX4_piano_19 ⟨Nat.zero_le _, Nat.zero_le _⟩) hW (fun H locs hW => ?_)
        refine nv_cge (tgt := 83) F (by omega) (by omega) dX4_piano_22 (by decide) (fun c_2 => ?_) (fun c_2 => ?_)
        · skip
          refine lv_iload_n hx hb dX4_piano_83 rfl (lv_at hl 2 rfl) ?_
          have hoz : off 10 7 μ μ1 := (fun z hz => by rw [ho1 z (by omega)])
          exact rt_ie F hr hlk hW (by unfold r_piano; rw [carI_nI (by omega), decide_eq_true (show 1 ≤ u ∧ u ≤ 9 from ⟨hu1, hu9⟩), if_pos rfl, nI_clamp (by omega), show Ln (AL S) = i by omega]) ⟨mainR_trial hM hoz ⟨_, hLi⟩, off_big hoz (by omega)⟩ dX4_piano_84
        · skip
          exact absurd c_2 (by omega)
      | succ d ih =>
        intro i LT1 μ1 H locs ls hid hLi ho1 hW hl
        have p0 := (ho1 0 (by omega)).trans m0
        have p3 := (ho1 3 (by omega)).trans o3
        have p117 := (ho1 117 (by omega)).trans o117
        obtain ⟨_, _, _, _, _, _, p10, -⟩ := id hLi
        have hLx := laneR_off hL ho1 (by omega)
        refine lv_iload_n hx hb dX4_piano_14 rfl (lv_at hl 3 rfl) ?_
        refine lv_aload_n hx hb dX4_piano_15 rfl (lv_at hl 0 rfl) ?_
        refine nv_get F hW (by omega) p0 rfl iX4 1 (by decide) tw_149 rfl dX4_piano_16 ?_
        refine cl_ip (cl_run (rest := [.int (nI i)]) F hW e_X4_68 (c_size hI l h3b hLx hk) ⟨Nat.le_of_ble_eq_true rfl, Nat.le_of_ble_eq_true rfl⟩ (by omega) p3 rfl rfl rfl hl (Nat.le_of_ble_eq_true rfl) dX4_piano_19 ⟨Nat.zero_le _, Nat.zero_le _⟩) hW (fun H locs hW => ?_)
        refine nv_cge (tgt := 83) F (by omega) (by omega) dX4_piano_22 (by decide) (fun c_3 => ?_) (fun c_3 => ?_)
        · skip
          exact absurd c_3 (by omega)
        · skip
          refine lv_aload_n hx hb dX4_piano_25 rfl (lv_at hl 0 rfl) ?_
          refine nv_get F hW (by omega) p0 rfl iX4 2 (by decide) tw_150 rfl dX4_piano_26 ?_
          refine lv_aload_n hx hb dX4_piano_29 rfl (lv_at hl 0 rfl) ?_
          refine nv_get F hW (by omega) p0 rfl iX4 1 (by decide) tw_149 rfl dX4_piano_30 ?_
          refine cl_v (cl_run (rest := []) F hW e_X4_138 (c_copyFrom hI l h10b h3b (by omega) hLi hLx (hk).1) ⟨Nat.le_of_ble_eq_true rfl, Nat.le_of_ble_eq_true rfl⟩ (by omega) p10 rfl rfl rfl hl (Nat.le_of_ble_eq_true rfl) dX4_piano_33 ⟨Nat.zero_le _, Nat.zero_le _⟩) hW (fun μ4 H locs q_4 hW => ?_)
          obtain ⟨hL_4, ho_4⟩ := q_4
          obtain ⟨_, _, _, _, _, _, o10_4, -⟩ := id hL_4
          have hk_4 := hk
          have o0_4 := (ho_4 0 (by omega)).trans p0
          have o3_4 := (ho_4 3 (by omega)).trans p3
          have o117_4 := (ho_4 117 (by omega)).trans p117
          have hLx3_4 := laneR_off hLx ho_4 (by omega)
          refine lv_aload_n hx hb dX4_piano_36 rfl (lv_at hl 0 rfl) ?_
          refine nv_get F hW (by omega) o0_4 rfl iX4 2 (by decide) tw_150 rfl dX4_piano_37 ?_
          refine lv_iload_n hx hb dX4_piano_40 rfl (lv_at hl 3 rfl) ?_
          refine cl_ip (cl_run (rest := []) F hW e_X4_87 (c_standsN hI l h10b hL_4 hk_4 i (by omega)) ⟨Nat.le_of_ble_eq_true rfl, Nat.le_of_ble_eq_true rfl⟩ (by omega) o10_4 rfl rfl rfl hl (Nat.le_of_ble_eq_true rfl) dX4_piano_41 ⟨Nat.zero_le _, Nat.zero_le _⟩) hW (fun H locs hW => ?_)
          refine nv_beq (tgt := 77) F dX4_piano_44 (by decide) (fun c_5 => ?_) (fun c_5 => ?_)
          · skip
            refine lv_iinc (v := ((nI (i + 1)))) (lv' := [(3, .int (nI (i + 1))), (0, .ref (xa cx 0)), (1, .int (nI u)), (2, .int (nI (bitsOf (piB (AL S) u) i)))]) hx hb dX4_piano_77 hl (k := 3) rfl (nI_add _ _) (by decide) rfl (fun ls hl => ?_)
            refine lv_goto (tgt := 14) hx hb dX4_piano_80 (by decide) ?_
            have hp : piB (AL S) u i = false := by unfold piB; first | (rw [‹lst (AL S) i = false›]; rfl) | (rw [‹canA (AL S) i u = false›]; simp; done) | (rw [‹calm 6 (addS (AL S) i u) = false›]; simp)
            have e1 : bitsOf (piB (AL S) u) (i + 1) = bitsOf (piB (AL S) u) i := by show _ ||| (if piB (AL S) u i = true then 2 ^ i else 0) = _; rw [if_neg (by rw [hp]; decide), Nat.or_zero]
            exact ih (i + 1) _ μ4 _ _ _ (by omega) hL_4 (fun z hz => by rw [ho_4 z (by omega)]; rw [ho1 z (by omega)]) hW (by rw [e1]; exact lv_sub hl [1, 2, 3, 0] rfl)
          · skip
            refine lv_aload_n hx hb dX4_piano_47 rfl (lv_at hl 0 rfl) ?_
            refine nv_get F hW (by omega) o0_4 rfl iX4 2 (by decide) tw_150 rfl dX4_piano_48 ?_
            refine lv_iload_n hx hb dX4_piano_51 rfl (lv_at hl 3 rfl) ?_
            refine lv_iload_n hx hb dX4_piano_52 rfl (lv_at hl 1 rfl) ?_
            refine cl_ie (cl_run (rest := []) F hW e_X4_113 (c_addStones hI l h10b hL_4 hk_4 i u (by omega) (by omega)) ⟨Nat.le_of_ble_eq_true rfl, Nat.le_of_ble_eq_true rfl⟩ (by omega) o10_4 rfl rfl rfl hl (Nat.le_of_ble_eq_true rfl) dX4_piano_53 ⟨Nat.zero_le _, Nat.zero_le _⟩) hW (fun μ6 H locs q_6 hW => ?_)
            obtain ⟨hL_6, ho_6⟩ := q_6
            obtain ⟨_, _, _, _, _, _, o10_6, -⟩ := id hL_6
            have hk_6 := lok_addS hk_4 i u
            have o0_6 := (ho_6 0 (by omega)).trans o0_4
            have o3_6 := (ho_6 3 (by omega)).trans o3_4
            have o117_6 := (ho_6 117 (by omega)).trans o117_4
            have hLx3_6 := laneR_off hLx3_4 ho_6 (by omega)
            refine nv_beq (tgt := 77) F dX4_piano_56 (by decide) (fun c_7 => ?_) (fun c_7 => ?_)
            · skip
              refine lv_iinc (v := ((nI (i + 1)))) (lv' := [(3, .int (nI (i + 1))), (0, .ref (xa cx 0)), (1, .int (nI u)), (2, .int (nI (bitsOf (piB (AL S) u) i)))]) hx hb dX4_piano_77 hl (k := 3) rfl (nI_add _ _) (by decide) rfl (fun ls hl => ?_)
              refine lv_goto (tgt := 14) hx hb dX4_piano_80 (by decide) ?_
              have hp : piB (AL S) u i = false := by unfold piB; first | (rw [‹lst (AL S) i = false›]; rfl) | (rw [‹canA (AL S) i u = false›]; simp; done) | (rw [‹calm 6 (addS (AL S) i u) = false›]; simp)
              have e1 : bitsOf (piB (AL S) u) (i + 1) = bitsOf (piB (AL S) u) i := by show _ ||| (if piB (AL S) u i = true then 2 ^ i else 0) = _; rw [if_neg (by rw [hp]; decide), Nat.or_zero]
              exact ih (i + 1) _ μ6 _ _ _ (by omega) hL_6 (fun z hz => by rw [ho_6 z (by omega)]; rw [ho_4 z (by omega)]; rw [ho1 z (by omega)]) hW (by rw [e1]; exact lv_sub hl [1, 2, 3, 0] rfl)
            · skip
              refine lv_aload_n hx hb dX4_piano_59 rfl (lv_at hl 0 rfl) ?_
              refine nv_get F hW (by omega) o0_6 rfl iX4 2 (by decide) tw_150 rfl dX4_piano_60 ?_
              refine lv_bipush (v := nI 6) hx hb dX4_piano_63 (by decide) ?_
              refine cl_ie (cl_run (rest := []) F hW e_X4_181 (c_staysCalm hI l h10b hL_6 hk_6 6 (by omega) (by omega)) ⟨Nat.le_of_ble_eq_true rfl, Nat.le_of_ble_eq_true rfl⟩ (by omega) o10_6 rfl rfl rfl hl (Nat.le_of_ble_eq_true rfl) dX4_piano_65 ⟨Nat.zero_le _, Nat.zero_le _⟩) hW (fun μ8 H locs q_8 hW => ?_)
              obtain ⟨⟨L1_8, hL_8⟩, ho_8⟩ := q_8
              obtain ⟨_, _, _, _, _, _, o10_8, -⟩ := id hL_8
              have o0_8 := (ho_8 0 (by omega)).trans o0_6
              have o3_8 := (ho_8 3 (by omega)).trans o3_6
              have o117_8 := (ho_8 117 (by omega)).trans o117_6
              have hLx3_8 := laneR_off hLx3_6 ho_8 (by omega)
              refine nv_beq (tgt := 77) F dX4_piano_68 (by decide) (fun c_9 => ?_) (fun c_9 => ?_)
              · skip
                refine lv_iinc (v := ((nI (i + 1)))) (lv' := [(3, .int (nI (i + 1))), (0, .ref (xa cx 0)), (1, .int (nI u)), (2, .int (nI (bitsOf (piB (AL S) u) i)))]) hx hb dX4_piano_77 hl (k := 3) rfl (nI_add _ _) (by decide) rfl (fun ls hl => ?_)
                refine lv_goto (tgt := 14) hx hb dX4_piano_80 (by decide) ?_
                have hp : piB (AL S) u i = false := by unfold piB; first | (rw [‹lst (AL S) i = false›]; rfl) | (rw [‹canA (AL S) i u = false›]; simp; done) | (rw [‹calm 6 (addS (AL S) i u) = false›]; simp)
                have e1 : bitsOf (piB (AL S) u) (i + 1) = bitsOf (piB (AL S) u) i := by show _ ||| (if piB (AL S) u i = true then 2 ^ i else 0) = _; rw [if_neg (by rw [hp]; decide), Nat.or_zero]
                exact ih (i + 1) _ μ8 _ _ _ (by omega) hL_8 (fun z hz => by rw [ho_8 z (by omega)]; rw [ho_6 z (by omega)]; rw [ho_4 z (by omega)]; rw [ho1 z (by omega)]) hW (by rw [e1]; exact lv_sub hl [1, 2, 3, 0] rfl)
              · skip
                refine lv_iload_n hx hb dX4_piano_71 rfl (lv_at hl 2 rfl) ?_
                refine lv_iconst (v := nI 1) hx hb dX4_piano_72 (by decide) ?_
                refine lv_iload_n hx hb dX4_piano_73 rfl (lv_at hl 3 rfl) ?_
                refine nv_shl F (by omega) (pow2_lt (by omega)) dX4_piano_74 ?_
                refine nv_top (y := ((nI (2 ^ i)))) (by rw [Nat.one_mul]) ?_
                refine nv_or F dX4_piano_75 ?_
                refine lv_istore_n (lv' := [(2, .int (nI ((bitsOf (piB (AL S) u) i) ||| (2 ^ i)))), (0, .ref (xa cx 0)), (1, .int (nI u)), (3, .int (nI i))]) hx hb dX4_piano_76 rfl hl (by decide) rfl (fun ls hl => ?_)
                refine lv_iinc (v := ((nI (i + 1)))) (lv' := [(3, .int (nI (i + 1))), (2, .int (nI ((bitsOf (piB (AL S) u) i) ||| (2 ^ i)))), (0, .ref (xa cx 0)), (1, .int (nI u))]) hx hb dX4_piano_77 hl (k := 3) rfl (nI_add _ _) (by decide) rfl (fun ls hl => ?_)
                refine lv_goto (tgt := 14) hx hb dX4_piano_80 (by decide) ?_
                have hp : piB (AL S) u i = true := by unfold piB; rw [‹lst (AL S) i = true›, ‹canA (AL S) i u = true›, ‹calm 6 (addS (AL S) i u) = true›]; rfl
                have e1 : bitsOf (piB (AL S) u) (i + 1) = bitsOf (piB (AL S) u) i ||| 2 ^ i := by show _ ||| (if piB (AL S) u i = true then 2 ^ i else 0) = _; rw [if_pos hp]
                exact ih (i + 1) _ μ8 _ _ _ (by omega) hL_8 (fun z hz => by rw [ho_8 z (by omega)]; rw [ho_6 z (by omega)]; rw [ho_4 z (by omega)]; rw [ho1 z (by omega)]) hW (by rw [e1]; exact lv_sub hl [2, 3, 1, 0] rfl)
    exact LOOP (Ln (AL S)) 0 LT μ _ _ _ (by omega) hLT off_rf hW (lv_sub hl [2, 3, 1, 0] rfl)
  · skip
    refine lv_bipush (v := (-2)) hx hb dX4_piano_7 (by decide) ?_
    exact rt_ie F hr hlk hW (by unfold r_piano; rw [‹carI pp = false›]; rfl) ⟨hM, off_rf⟩ dX4_piano_9
