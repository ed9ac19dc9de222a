/-! shares, rests, chances, years -/
def stW (L : LN) (q : Nat) : Nat := pop (LU (hrs 6 (emptyL L q)))
def shT (L : LN) (j q : Nat) : Int := ((stW L q : Int) - (stW L (q ||| 2 ^ j) : Int)) * (fct (pop q) : Int) * (fct (Ln L - 1 - pop q) : Int)
def shZ (L : LN) (j : Nat) : Nat → Int
  | 0 => 0
  | q + 1 => if q.testBit j then shZ L j q else shZ L j q + shT L j q
theorem stW_le (L : LN) (q : Nat) : stW L q ≤ 6 := pop_le _
theorem shT_b (L : LN) (j q : Nat) (hn : Ln L ≤ 6) : -3110400 ≤ shT L j q ∧ shT L j q ≤ 3110400 := by
  have h1 := stW_le L q
  have h2 := stW_le L (q ||| 2 ^ j)
  have h3 := fct_le (pop_le q)
  have h4 := fct_le (show Ln L - 1 - pop q ≤ 6 by omega)
  unfold shT
  generalize stW L q = a at *
  generalize stW L (q ||| 2 ^ j) = b at *
  generalize fct (pop q) = c at *
  generalize fct (Ln L - 1 - pop q) = d at *
  have hc : (0 : Int) ≤ c ∧ (c : Int) ≤ 720 := by omega
  have hd : (0 : Int) ≤ d ∧ (d : Int) ≤ 720 := by omega
  have hcd0 : (0 : Int) ≤ c * d := Int.mul_nonneg hc.1 hd.1
  have hcd : (c : Int) * d ≤ 518400 := by
    have : (c : Int) * d ≤ 720 * 720 := Int.mul_le_mul hc.2 hd.2 hd.1 (by decide)
    omega
  rw [Int.mul_assoc]
  generalize (c : Int) * d = e at *
  rcases (show (a : Int) - b = -6 ∨ (a : Int) - b = -5 ∨ (a : Int) - b = -4 ∨ (a : Int) - b = -3 ∨ (a : Int) - b = -2 ∨ (a : Int) - b = -1 ∨ (a : Int) - b = 0 ∨ (a : Int) - b = 1 ∨ (a : Int) - b = 2 ∨ (a : Int) - b = 3 ∨ (a : Int) - b = 4 ∨ (a : Int) - b = 5 ∨ (a : Int) - b = 6 by omega) with h | h | h | h | h | h | h | h | h | h | h | h | h <;> rw [h] <;> omega
theorem shZ_b (L : LN) (j : Nat) (hn : Ln L ≤ 6) : ∀ q : Nat, -3110400 * (q : Int) ≤ shZ L j q ∧ shZ L j q ≤ 3110400 * (q : Int) := by
  intro q
  induction q with
  | zero => exact ⟨by show -3110400 * (0 : Int) ≤ 0; omega, by show (0 : Int) ≤ 3110400 * 0; omega⟩
  | succ q ih =>
    have := shT_b L j q hn
    unfold shZ
    split <;> constructor <;> omega
def r_share (S : AS) (h : Int32) (up : Bool) : Int32 := if inR h (Ln (AL S)) then pofI (shZ (AL S) h.toNatClampNeg (2 ^ Ln (AL S))) (fct (Ln (AL S))) up else -1
theorem pow_n6 {n : Nat} (h : n ≤ 6) : 2 ^ n ≤ 64 ∧ 0 < 2 ^ n := ⟨pow_le64 h, Nat.two_pow_pos n⟩
theorem or_lt64 {a j : Nat} (ha : a < 64) (hj : j < 6) : a ||| 2 ^ j < 64 := Nat.or_lt_two_pow (n := 6) ha (Nat.pow_lt_pow_right (by decide) hj)
theorem pop_b : ∀ n, n < 7 → ∀ q, q < 2 ^ n → ∀ j, j < n → q.testBit j = false → pop q ≤ n - 1 := by decide +kernel
theorem hrs_U6 {L : LN} {B : Nat} (hk : lok L B) (n : Nat) : LU (hrs n L) < 64 := lok_U (lok_hrs hk n)

set_option maxHeartbeats 4000000 in
set_option maxRecDepth 100000 in
theorem c_standingWithStonesOf {cx : CX} (hI : xI cx) (l : Launch) {μ : ME} {S : AS} {B : Nat} (hN : 136 ≤ xN cx) (hM : mainR cx μ S) (hA : aok S B) (hB : B < 800000) (q : Nat) (hq : q < 64) : MT cx l yX4_standingWithStonesOf cX4_standingWithStonesOf 2 (some .int) 4 137 [.ref (xa cx 0), .int (nI q)] μ (Ei cx (nI (stW (AL S) q)) (fun μ1 => (∃ L1, laneR cx μ1 10 L1) ∧ off 10 7 μ μ1)) := by
  refine mt_of hI (by decide) (Nat.le_of_ble_eq_true rfl) ?_
  intro p e s m below meth c ls F hr hlk hW hl
  have hx := F.1.1
  have hb := F.1.2.1
  have hts := F.1.2.2.2.2
  obtain ⟨m0, hT, hL, ⟨LT, hLT⟩, hPa, hSe, hSl⟩ := id hM
  have hk := hA.2.1
  have hn6 := hk.1
  have h3b : 3 + 7 ≤ xN cx := by omega
  have h10b : 10 + 7 ≤ xN cx := by omega
  obtain ⟨_, _, _, _, _, _, o3, -⟩ := id hL
  obtain ⟨_, _, _, _, _, _, o10, -⟩ := id hLT
  obtain ⟨_, o1, -⟩ := id hT
  obtain ⟨_, _, o17, -⟩ := id hPa
  obtain ⟨_, _, _, o117, -⟩ := id hSe
  obtain ⟨⟨gs, o121, hgs⟩, hsl2, hsl3⟩ := id hSl
  have hl : lv_has ls 2 [(0, .ref (xa cx 0)), (1, .int (nI q))] := hl
  refine lv_aload_n hx hb dX4_standingWithStonesOf_0 rfl (lv_at hl 0 rfl) ?_
  refine nv_get F hW (by omega) m0 rfl iX4 2 (by decide) tw_150 rfl dX4_standingWithStonesOf_1 ?_
  refine lv_aload_n hx hb dX4_standingWithStonesOf_4 rfl (lv_at hl 0 rfl) ?_
  refine nv_get F hW (by omega) m0 rfl iX4 1 (by decide) tw_149 rfl dX4_standingWithStonesOf_5 ?_
  refine cl_v (cl_run (rest := []) F hW e_X4_138 (c_copyFrom hI l h10b h3b (by omega) hLT hL (hk).1) ⟨Nat.le_of_ble_eq_true rfl, Nat.le_of_ble_eq_true rfl⟩ (by omega) o10 rfl rfl rfl hl (Nat.le_of_ble_eq_true rfl) dX4_standingWithStonesOf_8 ⟨Nat.zero_le _, Nat.zero_le _⟩) hW (fun μ1 H locs q_1 hW => ?_)
  obtain ⟨hL_1, ho_1⟩ := q_1
  obtain ⟨_, _, _, _, _, _, o10_1, -⟩ := id hL_1
  have hk_1 := hk
  have o0_1 := (ho_1 0 (by omega)).trans m0
  have o1_1 := (ho_1 1 (by omega)).trans o1
  have o3_1 := (ho_1 3 (by omega)).trans o3
  have o17_1 := (ho_1 17 (by omega)).trans o17
  have o117_1 := (ho_1 117 (by omega)).trans o117
  have o121_1 := (ho_1 121 (by omega)).trans o121
  have hLx3_1 := laneR_off hL ho_1 (by omega)
  refine lv_aload_n hx hb dX4_standingWithStonesOf_11 rfl (lv_at hl 0 rfl) ?_
  refine nv_get F hW (by omega) o0_1 rfl iX4 2 (by decide) tw_150 rfl dX4_standingWithStonesOf_12 ?_
  refine lv_iload_n hx hb dX4_standingWithStonesOf_15 rfl (lv_at hl 1 rfl) ?_
  refine cl_v (cl_run (rest := []) F hW e_X4_234 (c_emptyAllBut hI l h10b hL_1 hk_1 q (by omega)) ⟨Nat.le_of_ble_eq_true rfl, Nat.le_of_ble_eq_true rfl⟩ (by omega) o10_1 rfl rfl rfl hl (Nat.le_of_ble_eq_true rfl) dX4_standingWithStonesOf_16 ⟨Nat.zero_le _, Nat.zero_le _⟩) hW (fun μ2 H locs q_2 hW => ?_)
  obtain ⟨hL_2, ho_2⟩ := q_2
  obtain ⟨_, _, _, _, _, _, o10_2, -⟩ := id hL_2
  have hk_2 := lok_emptyL hk_1 q
  have o0_2 := (ho_2 0 (by omega)).trans o0_1
  have o1_2 := (ho_2 1 (by omega)).trans o1_1
  have o3_2 := (ho_2 3 (by omega)).trans o3_1
  have o17_2 := (ho_2 17 (by omega)).trans o17_1
  have o117_2 := (ho_2 117 (by omega)).trans o117_1
  have o121_2 := (ho_2 121 (by omega)).trans o121_1
  have hLx3_2 := laneR_off hLx3_1 ho_2 (by omega)
  refine lv_aload_n hx hb dX4_standingWithStonesOf_19 rfl (lv_at hl 0 rfl) ?_
  refine nv_get F hW (by omega) o0_2 rfl iX4 2 (by decide) tw_150 rfl dX4_standingWithStonesOf_20 ?_
  refine lv_bipush (v := nI 6) hx hb dX4_standingWithStonesOf_23 (by decide) ?_
  refine cl_v (cl_run (rest := []) F hW e_X4_141 (c_passHours hI l h10b hL_2 hk_2 6 (by omega) (by omega)) ⟨Nat.le_of_ble_eq_true rfl, Nat.le_of_ble_eq_true rfl⟩ (by omega) o10_2 rfl rfl rfl hl (Nat.le_of_ble_eq_true rfl) dX4_standingWithStonesOf_25 ⟨Nat.zero_le _, Nat.zero_le _⟩) hW (fun μ3 H locs q_3 hW => ?_)
  obtain ⟨hL_3, ho_3⟩ := q_3
  obtain ⟨_, _, _, _, _, _, o10_3, -⟩ := id hL_3
  have hk_3 := lok_hrs hk_2 6
  have o0_3 := (ho_3 0 (by omega)).trans o0_2
  have o1_3 := (ho_3 1 (by omega)).trans o1_2
  have o3_3 := (ho_3 3 (by omega)).trans o3_2
  have o17_3 := (ho_3 17 (by omega)).trans o17_2
  have o117_3 := (ho_3 117 (by omega)).trans o117_2
  have o121_3 := (ho_3 121 (by omega)).trans o121_2
  have hLx3_3 := laneR_off hLx3_2 ho_3 (by omega)
  refine lv_aload_n hx hb dX4_standingWithStonesOf_28 rfl (lv_at hl 0 rfl) ?_
  refine nv_get F hW (by omega) o0_3 rfl iX4 2 (by decide) tw_150 rfl dX4_standingWithStonesOf_29 ?_
  refine cl_ip (cl_run (rest := []) F hW e_X4_145 (c_standingBits hI l h10b hL_3 hk_3) ⟨Nat.le_of_ble_eq_true rfl, Nat.le_of_ble_eq_true rfl⟩ (by omega) o10_3 rfl rfl rfl hl (Nat.le_of_ble_eq_true rfl) dX4_standingWithStonesOf_32 ⟨Nat.zero_le _, Nat.zero_le _⟩) hW (fun H locs hW => ?_)
  refine cl_ip (cl_runS (rest := []) F hW e_X4_219 (c_bitCount hI l (LU (hrs 6 (emptyL (AL S) q))) (hrs_U6 (lok_emptyL hk _) _)) ⟨Nat.le_of_ble_eq_true rfl, Nat.le_of_ble_eq_true rfl⟩ rfl rfl hl (Nat.le_of_ble_eq_true rfl) dX4_standingWithStonesOf_35 ⟨Nat.zero_le _, Nat.zero_le _⟩) hW (fun H locs hW => ?_)
  exact rt_ie F hr hlk hW rfl ⟨⟨_, hL_3⟩, (fun z hz => by rw [ho_3 z (by omega)]; rw [ho_2 z (by omega)]; rw [ho_1 z (by omega)])⟩ dX4_standingWithStonesOf_38

set_option maxHeartbeats 4000000 in
set_option maxRecDepth 100000 in
theorem k_share {cx : CX} (hI : xI cx) (l : Launch) {μ : ME} {S : AS} {B : Nat} (hN : 136 ≤ xN cx) (hM : mainR cx μ S) (hA : aok S B) (hB : B < 800000) (h : Int32) (up : Bool) : MT cx l yX4_share cX4_share 8 (some .int) 5 158 [.ref (xa cx 0), .int h, .int (b2 up)] μ (Ei cx (r_share S h up) (fun μ1 => mainR cx μ1 S ∧ off 0 136 μ μ1)) := by
  refine mt_of hI (by decide) (Nat.le_of_ble_eq_true rfl) ?_
  intro p e s m below meth c ls F hr hlk hW hl
  have hx := F.1.1
  have hb := F.1.2.1
  have hts := F.1.2.2.2.2
  obtain ⟨m0, hT, hL, ⟨LT, hLT⟩, hPa, hSe, hSl⟩ := id hM
  have hk := hA.2.1
  have hn6 := hk.1
  have h3b : 3 + 7 ≤ xN cx := by omega
  have h10b : 10 + 7 ≤ xN cx := by omega
  obtain ⟨_, _, _, _, _, _, o3, -⟩ := id hL
  obtain ⟨_, _, _, _, _, _, o10, -⟩ := id hLT
  obtain ⟨_, o1, -⟩ := id hT
  obtain ⟨_, _, o17, -⟩ := id hPa
  obtain ⟨_, _, _, o117, -⟩ := id hSe
  obtain ⟨⟨gs, o121, hgs⟩, hsl2, hsl3⟩ := id hSl
  have hl : lv_has ls 8 [(0, .ref (xa cx 0)), (1, .int h), (2, .int (b2 up))] := hl
  refine lv_aload_n hx hb dX4_share_0 rfl (lv_at hl 0 rfl) ?_
  refine nv_get F hW (by omega) m0 rfl iX4 1 (by decide) tw_149 rfl dX4_share_1 ?_
  refine lv_iload_n hx hb dX4_share_4 rfl (lv_at hl 1 rfl) ?_
  refine cl_ip (cl_run (rest := []) F hW e_X4_71 (c_has hI l h3b hL hk h) ⟨Nat.le_of_ble_eq_true rfl, Nat.le_of_ble_eq_true rfl⟩ (by omega) o3 rfl rfl rfl hl (Nat.le_of_ble_eq_true rfl) dX4_share_5 ⟨Nat.zero_le _, Nat.zero_le _⟩) hW (fun H locs hW => ?_)
  refine nv_bne (tgt := 13) F dX4_share_8 (by decide) (fun c_1 => ?_) (fun c_1 => ?_)
  · skip
    obtain ⟨j, hj, rfl⟩ := inR_of c_1 (by omega)
    have h64 := pow_n6 hn6
    refine lv_aload_n hx hb dX4_share_13 rfl (lv_at hl 0 rfl) ?_
    refine nv_get F hW (by omega) m0 rfl iX4 1 (by decide) tw_149 rfl dX4_share_14 ?_
    refine cl_ip (cl_run (rest := []) F hW e_X4_68 (c_size hI l h3b hL hk) ⟨Nat.le_of_ble_eq_true rfl, Nat.le_of_ble_eq_true rfl⟩ (by omega) o3 rfl rfl rfl hl (Nat.le_of_ble_eq_true rfl) dX4_share_17 ⟨Nat.zero_le _, Nat.zero_le _⟩) hW (fun H locs hW => ?_)
    refine lv_iconst (v := nI 1) hx hb dX4_share_20 (by decide) ?_
    refine nv_sub F (by omega) dX4_share_21 ?_
    refine lv_istore_n (lv' := [(3, .int (nI ((Ln (AL S)) - 1))), (0, .ref (xa cx 0)), (1, .int (nI j)), (2, .int (b2 up))]) hx hb dX4_share_22 rfl hl (by decide) rfl (fun ls hl => ?_)
    refine lv_iconst (v := nI 0) hx hb dX4_share_23 (by decide) ?_
    refine lv_istore (lv' := [(4, .int (nI 0)), (3, .int (nI ((Ln (AL S)) - 1))), (0, .ref (xa cx 0)), (1, .int (nI j)), (2, .int (b2 up))]) hx hb dX4_share_24 hl (by decide) rfl (fun ls hl => ?_)
    refine lv_iconst (v := nI 0) hx hb dX4_share_26 (by decide) ?_
    refine lv_istore (lv' := [(5, .int (nI 0)), (4, .int (nI 0)), (3, .int (nI ((Ln (AL S)) - 1))), (0, .ref (xa cx 0)), (1, .int (nI j)), (2, .int (b2 up))]) hx hb dX4_share_27 hl (by decide) rfl (fun ls hl => ?_)
    have LOOP : ∀ (d i : Nat) (LT1 : LN) (μ1 : ME) (H : Heap) (locs : List Loc) (ls : Array Slot), i + d = 2 ^ Ln (AL S) → (laneR cx μ1 10 LT1) → (off 10 7 μ μ1) → St cx s μ1 H locs → lv_has ls 8 [(0, .ref (xa cx 0)), (1, .int (nI j)), (2, .int (b2 up)), (3, .int (nI (Ln (AL S) - 1))), (4, .int (iI (shZ (AL S) j i))), (5, .int (nI i))] → W p l e { frames := 5, cells := 0, slots := 0, locals := 158 } s m [.ref (xa cx 0), .int (nI j), .int (b2 up)].toArray below meth c H locs 0 0 (MQ below (Ei cx (r_share S (nI j) up) (fun μ1 => mainR cx μ1 S ∧ off 0 136 μ μ1)) [.ref (xa cx 0), .int (nI j), .int (b2 up)].toArray s 0 0 (xA cx)) (F0 m 29 ls []) := by
      intro d
      induction d with
      | zero =>
        intro i LT1 μ1 H locs ls hid hLi ho1 hW hl
        have p0 := (ho1 0 (by omega)).trans m0
        have p3 := (ho1 3 (by omega)).trans o3
        have p117 := (ho1 117 (by omega)).trans o117
        obtain ⟨_, _, _, _, _, _, p10, -⟩ := id hLi
        have hLx := laneR_off hL ho1 (by omega)
        refine lv_iload hx hb dX4_share_29 (lv_at hl 5 rfl) ?_
        refine lv_iconst (v := nI 1) hx hb dX4_share_31 (by decide) ?_
        refine lv_aload_n hx hb dX4_share_32 rfl (lv_at hl 0 rfl) ?_
        refine nv_get F hW (by omega) p0 rfl iX4 1 (by decide) tw_149 rfl dX4_share_33 ?_
        refine cl_ip (cl_run (rest := [.int (nI 1), .int (nI i)]) F hW e_X4_68 (c_size hI l h3b hLx hk) ⟨Nat.le_of_ble_eq_true rfl, Nat.le_of_ble_eq_true rfl⟩ (by omega) p3 rfl rfl rfl hl (Nat.le_of_ble_eq_true rfl) dX4_share_36 ⟨Nat.zero_le _, Nat.zero_le _⟩) hW (fun H locs hW => ?_)
        refine nv_shl F (by omega) (by rw [Nat.one_mul]; omega) dX4_share_39 ?_
        refine nv_top (y := ((nI (2 ^ Ln (AL S))))) (by rw [Nat.one_mul]) ?_
        refine nv_cge (tgt := 105) F (by omega) (by omega) dX4_share_40 (by decide) (fun c_2 => ?_) (fun c_2 => ?_)
        · skip
          refine lv_iload hx hb dX4_share_105 (lv_at hl 4 rfl) ?_
          refine lv_aload_n hx hb dX4_share_107 rfl (lv_at hl 0 rfl) ?_
          refine nv_get F hW (by omega) p0 rfl iX4 1 (by decide) tw_149 rfl dX4_share_108 ?_
          refine cl_ip (cl_run (rest := [.int (iI (shZ (AL S) j i))]) F hW e_X4_68 (c_size hI l h3b hLx hk) ⟨Nat.le_of_ble_eq_true rfl, Nat.le_of_ble_eq_true rfl⟩ (by omega) p3 rfl rfl rfl hl (Nat.le_of_ble_eq_true rfl) dX4_share_111 ⟨Nat.zero_le _, Nat.zero_le _⟩) hW (fun H locs hW => ?_)
          refine cl_ip (cl_runS (rest := [.int (iI (shZ (AL S) j i))]) F hW e_X4_227 (c_factorial hI l (Ln (AL S)) (by omega)) ⟨Nat.le_of_ble_eq_true rfl, Nat.le_of_ble_eq_true rfl⟩ rfl rfl hl (Nat.le_of_ble_eq_true rfl) dX4_share_114 ⟨Nat.zero_le _, Nat.zero_le _⟩) hW (fun H locs hW => ?_)
          refine lv_iload_n hx hb dX4_share_117 rfl (lv_at hl 2 rfl) ?_
          refine cl_ip (cl_runS (rest := []) F hW e_X4_230 (c_partOfFraction hI l (shZ (AL S) j i) (fct (Ln (AL S))) up (by have := shZ_b (AL S) j hn6 i; omega) (by have := shZ_b (AL S) j hn6 i; omega) (by have := fct_le hn6; omega) (by have := fct_le hn6; omega)) ⟨Nat.le_of_ble_eq_true rfl, Nat.le_of_ble_eq_true rfl⟩ rfl rfl hl (Nat.le_of_ble_eq_true rfl) dX4_share_118 ⟨Nat.zero_le _, Nat.zero_le _⟩) hW (fun H locs hW => ?_)
          have hoz : off 10 7 μ μ1 := (fun z hz => by rw [ho1 z (by omega)])
          exact rt_ie F hr hlk hW (by unfold r_share; rw [inR_j hj (by omega), if_pos rfl, nI_clamp (by omega), show 2 ^ Ln (AL S) = i by omega]) ⟨mainR_trial hM hoz ⟨_, hLi⟩, off_big hoz (by omega)⟩ dX4_share_121
        · skip
          exact absurd c_2 (by omega)
      | succ d ih =>
        intro i LT1 μ1 H locs ls hid hLi ho1 hW hl
        have p0 := (ho1 0 (by omega)).trans m0
        have p3 := (ho1 3 (by omega)).trans o3
        have p117 := (ho1 117 (by omega)).trans o117
        obtain ⟨_, _, _, _, _, _, p10, -⟩ := id hLi
        have hLx := laneR_off hL ho1 (by omega)
        refine lv_iload hx hb dX4_share_29 (lv_at hl 5 rfl) ?_
        refine lv_iconst (v := nI 1) hx hb dX4_share_31 (by decide) ?_
        refine lv_aload_n hx hb dX4_share_32 rfl (lv_at hl 0 rfl) ?_
        refine nv_get F hW (by omega) p0 rfl iX4 1 (by decide) tw_149 rfl dX4_share_33 ?_
        refine cl_ip (cl_run (rest := [.int (nI 1), .int (nI i)]) F hW e_X4_68 (c_size hI l h3b hLx hk) ⟨Nat.le_of_ble_eq_true rfl, Nat.le_of_ble_eq_true rfl⟩ (by omega) p3 rfl rfl rfl hl (Nat.le_of_ble_eq_true rfl) dX4_share_36 ⟨Nat.zero_le _, Nat.zero_le _⟩) hW (fun H locs hW => ?_)
        refine nv_shl F (by omega) (by rw [Nat.one_mul]; omega) dX4_share_39 ?_
        refine nv_top (y := ((nI (2 ^ Ln (AL S))))) (by rw [Nat.one_mul]) ?_
        refine nv_cge (tgt := 105) F (by omega) (by omega) dX4_share_40 (by decide) (fun c_3 => ?_) (fun c_3 => ?_)
        · skip
          exact absurd c_3 (by omega)
        · skip
          refine lv_iload hx hb dX4_share_43 (lv_at hl 5 rfl) ?_
          refine lv_iload_n hx hb dX4_share_45 rfl (lv_at hl 1 rfl) ?_
          refine nv_shr F (by omega) (by omega) dX4_share_46 ?_
          refine lv_iconst (v := nI 1) hx hb dX4_share_47 (by decide) ?_
          refine nv_and F dX4_share_48 ?_
          refine nv_top (y := ((b2 (i.testBit j)))) (bit_b2 _ _) ?_
          refine nv_bne (tgt := 99) F dX4_share_49 (by decide) (fun c_4 => ?_) (fun c_4 => ?_)
          · skip
            refine lv_iinc (v := ((nI (i + 1)))) (lv' := [(5, .int (nI (i + 1))), (0, .ref (xa cx 0)), (1, .int (nI j)), (2, .int (b2 up)), (3, .int (nI (Ln (AL S) - 1))), (4, .int (iI (shZ (AL S) j i)))]) hx hb dX4_share_99 hl (k := 5) rfl (nI_add _ _) (by decide) rfl (fun ls hl => ?_)
            refine lv_goto (tgt := 29) hx hb dX4_share_102 (by decide) ?_
            have e1 : shZ (AL S) j (i + 1) = shZ (AL S) j i := by show (if i.testBit j = true then _ else _) = _; rw [if_pos (by assumption)]
            exact ih (i + 1) _ μ1 _ _ _ (by omega) hLi (fun z hz => by rw [ho1 z (by omega)]) hW (by rw [e1]; exact lv_sub hl [1, 2, 3, 4, 5, 0] rfl)
          · skip
            refine lv_iload hx hb dX4_share_52 (lv_at hl 5 rfl) ?_
            refine cl_ip (cl_runS (rest := []) F hW e_X4_219 (c_bitCount hI l i (by omega)) ⟨Nat.le_of_ble_eq_true rfl, Nat.le_of_ble_eq_true rfl⟩ rfl rfl hl (Nat.le_of_ble_eq_true rfl) dX4_share_54 ⟨Nat.zero_le _, Nat.zero_le _⟩) hW (fun H locs hW => ?_)
            refine lv_istore (lv' := [(6, .int (nI (pop i))), (0, .ref (xa cx 0)), (1, .int (nI j)), (2, .int (b2 up)), (3, .int (nI (Ln (AL S) - 1))), (4, .int (iI (shZ (AL S) j i))), (5, .int (nI i))]) hx hb dX4_share_57 hl (by decide) rfl (fun ls hl => ?_)
            refine lv_aload_n hx hb dX4_share_59 rfl (lv_at hl 1 rfl) ?_
            refine lv_iload hx hb dX4_share_60 (lv_at hl 6 rfl) ?_
            refine cl_ie (cl_run (rest := []) F hW e_X4_224 (c_standingWithStonesOf hI l hN (mainR_trial hM (fun z hz => by rw [ho1 z (by omega)]) ⟨_, hLi⟩) hA hB i (by omega)) ⟨Nat.le_of_ble_eq_true rfl, Nat.le_of_ble_eq_true rfl⟩ (by omega) p0 rfl rfl rfl hl (Nat.le_of_ble_eq_true rfl) dX4_share_62 ⟨Nat.zero_le _, Nat.zero_le _⟩) hW (fun μ5 H locs q_5 hW => ?_)
            obtain ⟨⟨L1_5, hL_5⟩, ho_5⟩ := q_5
            obtain ⟨_, _, _, _, _, _, o10_5, -⟩ := id hL_5
            have o0_5 := (ho_5 0 (by omega)).trans p0
            have o3_5 := (ho_5 3 (by omega)).trans p3
            have o117_5 := (ho_5 117 (by omega)).trans p117
            have hLx3_5 := laneR_off hLx ho_5 (by omega)
            refine lv_aload_n hx hb dX4_share_65 rfl (lv_at hl 1 rfl) ?_
            refine lv_iload hx hb dX4_share_66 (lv_at hl 6 rfl) ?_
            refine lv_iconst (v := nI 1) hx hb dX4_share_68 (by decide) ?_
            refine lv_iload_n hx hb dX4_share_69 rfl (lv_at hl 2 rfl) ?_
            refine nv_shl F (by omega) (pow2_lt (by omega)) dX4_share_70 ?_
            refine nv_top (y := ((nI (2 ^ j)))) (by rw [Nat.one_mul]) ?_
            refine nv_or F dX4_share_71 ?_
            refine cl_ie (cl_run (rest := [.int (nI (stW (AL S) i))]) F hW e_X4_224 (c_standingWithStonesOf hI l hN (mainR_trial hM (fun z hz => by rw [ho_5 z (by omega)]; rw [ho1 z (by omega)]) ⟨_, hL_5⟩) hA hB (i ||| (2 ^ j)) (or_lt64 (by omega) (by omega))) ⟨Nat.le_of_ble_eq_true rfl, Nat.le_of_ble_eq_true rfl⟩ (by omega) o0_5 rfl rfl rfl hl (Nat.le_of_ble_eq_true rfl) dX4_share_72 ⟨Nat.zero_le _, Nat.zero_le _⟩) hW (fun μ6 H locs q_6 hW => ?_)
            obtain ⟨⟨L1_6, hL_6⟩, ho_6⟩ := q_6
            obtain ⟨_, _, _, _, _, _, o10_6, -⟩ := id hL_6
            have o0_6 := (ho_6 0 (by omega)).trans o0_5
            have o3_6 := (ho_6 3 (by omega)).trans o3_5
            have o117_6 := (ho_6 117 (by omega)).trans o117_5
            have hLx3_6 := laneR_off hLx3_5 ho_6 (by omega)
            refine lv_isub hx hb dX4_share_75 ?_
            refine nv_top (y := ((iI ((stW (AL S) i : Int) - (stW (AL S) (i ||| 2 ^ j) : Int))))) (by rw [iI_nI, iI_nI, iI_sub]) ?_
            refine lv_istore (lv' := [(7, .int (iI ((stW (AL S) i : Int) - (stW (AL S) (i ||| 2 ^ j) : Int)))), (6, .int (nI (pop i))), (0, .ref (xa cx 0)), (1, .int (nI j)), (2, .int (b2 up)), (3, .int (nI (Ln (AL S) - 1))), (4, .int (iI (shZ (AL S) j i))), (5, .int (nI i))]) hx hb dX4_share_76 hl (by decide) rfl (fun ls hl => ?_)
            refine lv_iload hx hb dX4_share_78 (lv_at hl 6 rfl) ?_
            refine lv_iload hx hb dX4_share_80 (lv_at hl 0 rfl) ?_
            refine lv_iload hx hb dX4_share_82 (lv_at hl 1 rfl) ?_
            refine cl_ip (cl_runS (rest := [.int (iI ((stW (AL S) i : Int) - (stW (AL S) (i ||| 2 ^ j) : Int))), .int (iI (shZ (AL S) j i))]) F hW e_X4_227 (c_factorial hI l (pop i) (by have := pop_le i; omega)) ⟨Nat.le_of_ble_eq_true rfl, Nat.le_of_ble_eq_true rfl⟩ rfl rfl hl (Nat.le_of_ble_eq_true rfl) dX4_share_84 ⟨Nat.zero_le _, Nat.zero_le _⟩) hW (fun H locs hW => ?_)
            refine lv_imul hx hb dX4_share_87 ?_
            refine nv_top (y := ((iI (((stW (AL S) i : Int) - (stW (AL S) (i ||| 2 ^ j) : Int)) * (fct (pop i) : Int))))) (by rw [iI_nI, iI_mul]) ?_
            refine lv_iload_n hx hb dX4_share_88 rfl (lv_at hl 5 rfl) ?_
            refine lv_iload hx hb dX4_share_89 (lv_at hl 1 rfl) ?_
            refine nv_sub F (pop_b (Ln (AL S)) (by omega) i (by omega) j hj (by assumption)) dX4_share_91 ?_
            refine cl_ip (cl_runS (rest := [.int (iI (((stW (AL S) i : Int) - (stW (AL S) (i ||| 2 ^ j) : Int)) * (fct (pop i) : Int))), .int (iI (shZ (AL S) j i))]) F hW e_X4_227 (c_factorial hI l ((Ln (AL S) - 1) - (pop i)) (by omega)) ⟨Nat.le_of_ble_eq_true rfl, Nat.le_of_ble_eq_true rfl⟩ rfl rfl hl (Nat.le_of_ble_eq_true rfl) dX4_share_92 ⟨Nat.zero_le _, Nat.zero_le _⟩) hW (fun H locs hW => ?_)
            refine lv_imul hx hb dX4_share_95 ?_
            refine nv_top (y := ((iI (shT (AL S) j i)))) (by rw [iI_nI, iI_mul]; rfl) ?_
            refine lv_iadd hx hb dX4_share_96 ?_
            refine nv_top (y := ((iI (shZ (AL S) j i + shT (AL S) j i)))) (by rw [iI_add]) ?_
            refine lv_istore (lv' := [(4, .int (iI (shZ (AL S) j i + shT (AL S) j i))), (7, .int (iI ((stW (AL S) i : Int) - (stW (AL S) (i ||| 2 ^ j) : Int)))), (6, .int (nI (pop i))), (0, .ref (xa cx 0)), (1, .int (nI j)), (2, .int (b2 up)), (3, .int (nI (Ln (AL S) - 1))), (5, .int (nI i))]) hx hb dX4_share_97 hl (by decide) rfl (fun ls hl => ?_)
            refine lv_iinc (v := ((nI (i + 1)))) (lv' := [(5, .int (nI (i + 1))), (4, .int (iI (shZ (AL S) j i + shT (AL S) j i))), (7, .int (iI ((stW (AL S) i : Int) - (stW (AL S) (i ||| 2 ^ j) : Int)))), (6, .int (nI (pop i))), (0, .ref (xa cx 0)), (1, .int (nI j)), (2, .int (b2 up)), (3, .int (nI (Ln (AL S) - 1)))]) hx hb dX4_share_99 hl (k := 7) rfl (nI_add _ _) (by decide) rfl (fun ls hl => ?_)
            refine lv_goto (tgt := 29) hx hb dX4_share_102 (by decide) ?_
            have e1 : shZ (AL S) j (i + 1) = shZ (AL S) j i + shT (AL S) j i := by show (if i.testBit j = true then _ else _) = _; rw [if_neg (by rw [‹i.testBit j = false›]; decide)]
            exact ih (i + 1) _ μ6 _ _ _ (by omega) hL_6 (fun z hz => by rw [ho_6 z (by omega)]; rw [ho_5 z (by omega)]; rw [ho1 z (by omega)]) hW (by rw [e1]; exact lv_sub hl [4, 5, 6, 7, 1, 0] rfl)
    exact LOOP (2 ^ Ln (AL S)) 0 LT μ _ _ _ (by omega) hLT off_rf hW (lv_sub hl [3, 4, 5, 2, 1, 0] rfl)
  · skip
    refine lv_iconst (v := (-1)) hx hb dX4_share_11 (by decide) ?_
    exact rt_ie F hr hlk hW (by unfold r_share; rw [‹inR h (Ln (AL S)) = false›]; rfl) ⟨hM, off_rf⟩ dX4_share_12

def adI (L : LN) (h ch : Nat) : LN := if ch = 1 then addS L h 3 else L
def gnL (L : LN) (h ch rv rc : Nat) : LN := hrs 4 (adI (adI L h ch) rv rc)
def gnI (L : LN) (h ch rv rc : Nat) : Int32 := nI (lgr (gnL L h ch rv rc) h + (if lst (gnL L h ch rv rc) h then 5 else 0)) - nI (2 * ch)
def prB (L : LN) (h ch rv rc : Nat) : Bool := decide (¬ gnI L h ch rv rc < gnI L h (1 - ch) rv rc)
def rsP (L : LN) (j o a b : Nat) (q : Nat × Int32) : Nat × Int32 := if prB L j a o b && prB L o b j a then (q.1 + 1, if q.2 = -9 then nI (10 * a + b) else q.2) else q
def r_rests (S : AS) (j o w : Int32) : Int32 := if inR j (Ln (AL S)) && inR o (Ln (AL S)) then (if decide (¬ j = o) && halI w then (if w = nI 0 then nI (rsP (AL S) j.toNatClampNeg o.toNatClampNeg 1 1 (rsP (AL S) j.toNatClampNeg o.toNatClampNeg 1 0 (rsP (AL S) j.toNatClampNeg o.toNatClampNeg 0 1 (rsP (AL S) j.toNatClampNeg o.toNatClampNeg 0 0 (0, -9))))).1 else (rsP (AL S) j.toNatClampNeg o.toNatClampNeg 1 1 (rsP (AL S) j.toNatClampNeg o.toNatClampNeg 1 0 (rsP (AL S) j.toNatClampNeg o.toNatClampNeg 0 1 (rsP (AL S) j.toNatClampNeg o.toNatClampNeg 0 0 (0, -9))))).2) else -2) else -1
theorem lok_adI {L : LN} {B : Nat} (hk : lok L B) (h ch : Nat) : lok (adI L h ch) B := by
  unfold adI
  split
  · exact lok_addS hk _ _
  · exact hk
theorem addS_n (L : LN) (j v : Nat) : Ln (addS L j v) = Ln L := by
  unfold addS
  split <;> rfl
theorem adI_n (L : LN) (h ch : Nat) : Ln (adI L h ch) = Ln L := by
  unfold adI
  split
  · exact addS_n _ _ _
  · rfl
theorem gnL_n (L : LN) (h ch rv rc : Nat) : Ln (gnL L h ch rv rc) = Ln L := by
  unfold gnL
  rw [hrs_n, adI_n, adI_n]

set_option maxHeartbeats 4000000 in
set_option maxRecDepth 100000 in
theorem c_gain {cx : CX} (hI : xI cx) (l : Launch) {μ : ME} {S : AS} {B : Nat} (hN : 136 ≤ xN cx) (hM : mainR cx μ S) (hA : aok S B) (hB : B < 800000) (j ch o rc : Nat) (hj : j < Ln (AL S)) (hoo : o < Ln (AL S)) (hch : ch ≤ 1) (hrc : rc ≤ 1) : MT cx l yX4_gain cX4_gain 5 (some .int) 4 137 [.ref (xa cx 0), .int (nI j), .int (nI ch), .int (nI o), .int (nI rc)] μ (Ei cx (gnI (AL S) j ch o rc) (fun μ1 => (∃ L1, laneR cx μ1 10 L1) ∧ off 10 7 μ μ1)) := by
  refine mt_of hI (by decide) (Nat.le_of_ble_eq_true rfl) ?_
  intro p e s m below meth c ls F hr hlk hW hl
  have hx := F.1.1
  have hb := F.1.2.1
  have hts := F.1.2.2.2.2
  obtain ⟨m0, hT, hL, ⟨LT, hLT⟩, hPa, hSe, hSl⟩ := id hM
  have hk := hA.2.1
  have hn6 := hk.1
  have h3b : 3 + 7 ≤ xN cx := by omega
  have h10b : 10 + 7 ≤ xN cx := by omega
  obtain ⟨_, _, _, _, _, _, o3, -⟩ := id hL
  obtain ⟨_, _, _, _, _, _, o10, -⟩ := id hLT
  obtain ⟨_, o1, -⟩ := id hT
  obtain ⟨_, _, o17, -⟩ := id hPa
  obtain ⟨_, _, _, o117, -⟩ := id hSe
  obtain ⟨⟨gs, o121, hgs⟩, hsl2, hsl3⟩ := id hSl
  have hl : lv_has ls 5 [(0, .ref (xa cx 0)), (1, .int (nI j)), (2, .int (nI ch)), (3, .int (nI o)), (4, .int (nI rc))] := hl
  refine lv_aload_n hx hb dX4_gain_0 rfl (lv_at hl 0 rfl) ?_
  refine nv_get F hW (by omega) m0 rfl iX4 2 (by decide) tw_150 rfl dX4_gain_1 ?_
  refine lv_aload_n hx hb dX4_gain_4 rfl (lv_at hl 0 rfl) ?_
  refine nv_get F hW (by omega) m0 rfl iX4 1 (by decide) tw_149 rfl dX4_gain_5 ?_
  refine cl_v (cl_run (rest := []) F hW e_X4_138 (c_copyFrom hI l h10b h3b (by omega) hLT hL (hk).1) ⟨Nat.le_of_ble_eq_true rfl, Nat.le_of_ble_eq_true rfl⟩ (by omega) o10 rfl rfl rfl hl (Nat.le_of_ble_eq_true rfl) dX4_gain_8 ⟨Nat.zero_le _, Nat.zero_le _⟩) hW (fun μ1 H locs q_1 hW => ?_)
  obtain ⟨hL_1, ho_1⟩ := q_1
  obtain ⟨_, _, _, _, _, _, o10_1, -⟩ := id hL_1
  have hk_1 := hk
  have o0_1 := (ho_1 0 (by omega)).trans m0
  have o1_1 := (ho_1 1 (by omega)).trans o1
  have o3_1 := (ho_1 3 (by omega)).trans o3
  have o17_1 := (ho_1 17 (by omega)).trans o17
  have o117_1 := (ho_1 117 (by omega)).trans o117
  have o121_1 := (ho_1 121 (by omega)).trans o121
  have hLx3_1 := laneR_off hL ho_1 (by omega)
  refine lv_iload_n hx hb dX4_gain_11 rfl (lv_at hl 2 rfl) ?_
  refine lv_iconst (v := nI 1) hx hb dX4_gain_12 (by decide) ?_
  refine nv_cne (tgt := 26) F (by omega) (by omega) dX4_gain_13 (by decide) (fun c_2 => ?_) (fun c_2 => ?_)
  · skip
    have hA1_3 : laneR cx μ1 10 (adI (AL S) j ch) := by unfold adI; rw [if_neg (by assumption)]; exact hL_1
    have hB1_3 := lok_adI hk j ch
    refine lv_iload hx hb dX4_gain_26 (lv_at hl 4 rfl) ?_
    refine lv_iconst (v := nI 1) hx hb dX4_gain_28 (by decide) ?_
    refine nv_cne (tgt := 42) F (by omega) (by omega) dX4_gain_29 (by decide) (fun c_4 => ?_) (fun c_4 => ?_)
    · skip
      have hA2_5 : laneR cx μ1 10 (adI (adI (AL S) j ch) o rc) := by unfold adI; rw [show (if rc = 1 then addS (if ch = 1 then addS (AL S) j 3 else AL S) o 3 else (if ch = 1 then addS (AL S) j 3 else AL S)) = _ from if_neg (by assumption)]; exact hA1_3
      have hB2_5 := lok_adI (lok_adI hk j ch) o rc
      refine lv_aload_n hx hb dX4_gain_42 rfl (lv_at hl 0 rfl) ?_
      refine nv_get F hW (by omega) o0_1 rfl iX4 2 (by decide) tw_150 rfl dX4_gain_43 ?_
      refine lv_iconst (v := nI 4) hx hb dX4_gain_46 (by decide) ?_
      refine cl_v (cl_run (rest := []) F hW e_X4_141 (c_passHours hI l h10b hA2_5 hB2_5 4 (by omega) (by omega)) ⟨Nat.le_of_ble_eq_true rfl, Nat.le_of_ble_eq_true rfl⟩ (by omega) o10_1 rfl rfl rfl hl (Nat.le_of_ble_eq_true rfl) dX4_gain_47 ⟨Nat.zero_le _, Nat.zero_le _⟩) hW (fun μ6 H locs q_6 hW => ?_)
      obtain ⟨hL_6, ho_6⟩ := q_6
      obtain ⟨_, _, _, _, _, _, o10_6, -⟩ := id hL_6
      have hk_6 := lok_hrs hB2_5 4
      have o0_6 := (ho_6 0 (by omega)).trans o0_1
      have o1_6 := (ho_6 1 (by omega)).trans o1_1
      have o3_6 := (ho_6 3 (by omega)).trans o3_1
      have o17_6 := (ho_6 17 (by omega)).trans o17_1
      have o117_6 := (ho_6 117 (by omega)).trans o117_1
      have o121_6 := (ho_6 121 (by omega)).trans o121_1
      have hLx3_6 := laneR_off hLx3_1 ho_6 (by omega)
      refine lv_aload_n hx hb dX4_gain_50 rfl (lv_at hl 0 rfl) ?_
      refine nv_get F hW (by omega) o0_6 rfl iX4 2 (by decide) tw_150 rfl dX4_gain_51 ?_
      refine lv_iload_n hx hb dX4_gain_54 rfl (lv_at hl 1 rfl) ?_
      refine cl_ip (cl_run (rest := []) F hW e_X4_96 (c_groundOf hI l h10b hL_6 hk_6 (by omega) j (by rw [hrs_n, adI_n, adI_n]; exact hj)) ⟨Nat.le_of_ble_eq_true rfl, Nat.le_of_ble_eq_true rfl⟩ (by omega) o10_6 rfl rfl rfl hl (Nat.le_of_ble_eq_true rfl) dX4_gain_55 ⟨Nat.zero_le _, Nat.zero_le _⟩) hW (fun H locs hW => ?_)
      refine lv_aload_n hx hb dX4_gain_58 rfl (lv_at hl 0 rfl) ?_
      refine nv_get F hW (by omega) o0_6 rfl iX4 2 (by decide) tw_150 rfl dX4_gain_59 ?_
      refine lv_iload_n hx hb dX4_gain_62 rfl (lv_at hl 1 rfl) ?_
      refine cl_ip (cl_run (rest := [.int (nI (lgr (hrs 4 (adI (adI (AL S) j ch) o rc)) j))]) F hW e_X4_87 (c_standsN hI l h10b hL_6 hk_6 j (by omega)) ⟨Nat.le_of_ble_eq_true rfl, Nat.le_of_ble_eq_true rfl⟩ (by omega) o10_6 rfl rfl rfl hl (Nat.le_of_ble_eq_true rfl) dX4_gain_63 ⟨Nat.zero_le _, Nat.zero_le _⟩) hW (fun H locs hW => ?_)
      refine nv_beq (tgt := 73) F dX4_gain_66 (by decide) (fun c_7 => ?_) (fun c_7 => ?_)
      · skip
        refine lv_iconst (v := nI 0) hx hb dX4_gain_73 (by decide) ?_
        refine nv_add F dX4_gain_74 ?_
        refine nv_top (y := ((nI (lgr (gnL (AL S) j ch o rc) j + (if lst (gnL (AL S) j ch o rc) j then 5 else 0))))) (by rw [show lst (gnL (AL S) j ch o rc) j = _ from ‹lst (hrs 4 (adI (adI (AL S) j ch) o rc)) j = false›]; rfl) ?_
        refine lv_iconst (v := nI 2) hx hb dX4_gain_75 (by decide) ?_
        refine lv_iload_n hx hb dX4_gain_76 rfl (lv_at hl 2 rfl) ?_
        refine nv_mul F dX4_gain_77 ?_
        refine lv_isub hx hb dX4_gain_78 ?_
        exact rt_ie F hr hlk hW rfl ⟨⟨_, hL_6⟩, (fun z hz => by rw [ho_6 z (by omega)]; rw [ho_1 z (by omega)])⟩ dX4_gain_79
      · skip
        refine lv_iconst (v := nI 5) hx hb dX4_gain_69 (by decide) ?_
        refine lv_goto (tgt := 74) hx hb dX4_gain_70 (by decide) ?_
        refine nv_add F dX4_gain_74 ?_
        refine nv_top (y := ((nI (lgr (gnL (AL S) j ch o rc) j + (if lst (gnL (AL S) j ch o rc) j then 5 else 0))))) (by rw [show lst (gnL (AL S) j ch o rc) j = _ from ‹lst (hrs 4 (adI (adI (AL S) j ch) o rc)) j = true›]; rfl) ?_
        refine lv_iconst (v := nI 2) hx hb dX4_gain_75 (by decide) ?_
        refine lv_iload_n hx hb dX4_gain_76 rfl (lv_at hl 2 rfl) ?_
        refine nv_mul F dX4_gain_77 ?_
        refine lv_isub hx hb dX4_gain_78 ?_
        exact rt_ie F hr hlk hW rfl ⟨⟨_, hL_6⟩, (fun z hz => by rw [ho_6 z (by omega)]; rw [ho_1 z (by omega)])⟩ dX4_gain_79
    · skip
      refine lv_aload_n hx hb dX4_gain_32 rfl (lv_at hl 0 rfl) ?_
      refine nv_get F hW (by omega) o0_1 rfl iX4 2 (by decide) tw_150 rfl dX4_gain_33 ?_
      refine lv_iload_n hx hb dX4_gain_36 rfl (lv_at hl 3 rfl) ?_
      refine lv_iconst (v := nI 3) hx hb dX4_gain_37 (by decide) ?_
      refine cl_ie (cl_run (rest := []) F hW e_X4_113 (c_addStones hI l h10b hA1_3 hB1_3 o 3 (by omega) (by omega)) ⟨Nat.le_of_ble_eq_true rfl, Nat.le_of_ble_eq_true rfl⟩ (by omega) o10_1 rfl rfl rfl hl (Nat.le_of_ble_eq_true rfl) dX4_gain_38 ⟨Nat.zero_le _, Nat.zero_le _⟩) hW (fun μ8 H locs q_8 hW => ?_)
      obtain ⟨hL_8, ho_8⟩ := q_8
      obtain ⟨_, _, _, _, _, _, o10_8, -⟩ := id hL_8
      have hk_8 := lok_addS hB1_3 o 3
      have o0_8 := (ho_8 0 (by omega)).trans o0_1
      have o1_8 := (ho_8 1 (by omega)).trans o1_1
      have o3_8 := (ho_8 3 (by omega)).trans o3_1
      have o17_8 := (ho_8 17 (by omega)).trans o17_1
      have o117_8 := (ho_8 117 (by omega)).trans o117_1
      have o121_8 := (ho_8 121 (by omega)).trans o121_1
      have hLx3_8 := laneR_off hLx3_1 ho_8 (by omega)
      refine lv_pop hx hb dX4_gain_41 rfl ?_
      have hA2_9 : laneR cx μ8 10 (adI (adI (AL S) j ch) o rc) := by unfold adI; rw [show (if rc = 1 then addS (if ch = 1 then addS (AL S) j 3 else AL S) o 3 else (if ch = 1 then addS (AL S) j 3 else AL S)) = _ from if_pos (by assumption)]; exact hL_8
      have hB2_9 := lok_adI (lok_adI hk j ch) o rc
      refine lv_aload_n hx hb dX4_gain_42 rfl (lv_at hl 0 rfl) ?_
      refine nv_get F hW (by omega) o0_8 rfl iX4 2 (by decide) tw_150 rfl dX4_gain_43 ?_
      refine lv_iconst (v := nI 4) hx hb dX4_gain_46 (by decide) ?_
      refine cl_v (cl_run (rest := []) F hW e_X4_141 (c_passHours hI l h10b hA2_9 hB2_9 4 (by omega) (by omega)) ⟨Nat.le_of_ble_eq_true rfl, Nat.le_of_ble_eq_true rfl⟩ (by omega) o10_8 rfl rfl rfl hl (Nat.le_of_ble_eq_true rfl) dX4_gain_47 ⟨Nat.zero_le _, Nat.zero_le _⟩) hW (fun μ10 H locs q_10 hW => ?_)
      obtain ⟨hL_10, ho_10⟩ := q_10
      obtain ⟨_, _, _, _, _, _, o10_10, -⟩ := id hL_10
      have hk_10 := lok_hrs hB2_9 4
      have o0_10 := (ho_10 0 (by omega)).trans o0_8
      have o1_10 := (ho_10 1 (by omega)).trans o1_8
      have o3_10 := (ho_10 3 (by omega)).trans o3_8
      have o17_10 := (ho_10 17 (by omega)).trans o17_8
      have o117_10 := (ho_10 117 (by omega)).trans o117_8
      have o121_10 := (ho_10 121 (by omega)).trans o121_8
      have hLx3_10 := laneR_off hLx3_8 ho_10 (by omega)
      refine lv_aload_n hx hb dX4_gain_50 rfl (lv_at hl 0 rfl) ?_
      refine nv_get F hW (by omega) o0_10 rfl iX4 2 (by decide) tw_150 rfl dX4_gain_51 ?_
      refine lv_iload_n hx hb dX4_gain_54 rfl (lv_at hl 1 rfl) ?_
      refine cl_ip (cl_run (rest := []) F hW e_X4_96 (c_groundOf hI l h10b hL_10 hk_10 (by omega) j (by rw [hrs_n, adI_n, adI_n]; exact hj)) ⟨Nat.le_of_ble_eq_true rfl, Nat.le_of_ble_eq_true rfl⟩ (by omega) o10_10 rfl rfl rfl hl (Nat.le_of_ble_eq_true rfl) dX4_gain_55 ⟨Nat.zero_le _, Nat.zero_le _⟩) hW (fun H locs hW => ?_)
      refine lv_aload_n hx hb dX4_gain_58 rfl (lv_at hl 0 rfl) ?_
      refine nv_get F hW (by omega) o0_10 rfl iX4 2 (by decide) tw_150 rfl dX4_gain_59 ?_
      refine lv_iload_n hx hb dX4_gain_62 rfl (lv_at hl 1 rfl) ?_
      refine cl_ip (cl_run (rest := [.int (nI (lgr (hrs 4 (adI (adI (AL S) j ch) o rc)) j))]) F hW e_X4_87 (c_standsN hI l h10b hL_10 hk_10 j (by omega)) ⟨Nat.le_of_ble_eq_true rfl, Nat.le_of_ble_eq_true rfl⟩ (by omega) o10_10 rfl rfl rfl hl (Nat.le_of_ble_eq_true rfl) dX4_gain_63 ⟨Nat.zero_le _, Nat.zero_le _⟩) hW (fun H locs hW => ?_)
      refine nv_beq (tgt := 73) F dX4_gain_66 (by decide) (fun c_11 => ?_) (fun c_11 => ?_)
      · skip
        refine lv_iconst (v := nI 0) hx hb dX4_gain_73 (by decide) ?_
        refine nv_add F dX4_gain_74 ?_
        refine nv_top (y := ((nI (lgr (gnL (AL S) j ch o rc) j + (if lst (gnL (AL S) j ch o rc) j then 5 else 0))))) (by rw [show lst (gnL (AL S) j ch o rc) j = _ from ‹lst (hrs 4 (adI (adI (AL S) j ch) o rc)) j = false›]; rfl) ?_
        refine lv_iconst (v := nI 2) hx hb dX4_gain_75 (by decide) ?_
        refine lv_iload_n hx hb dX4_gain_76 rfl (lv_at hl 2 rfl) ?_
        refine nv_mul F dX4_gain_77 ?_
        refine lv_isub hx hb dX4_gain_78 ?_
        exact rt_ie F hr hlk hW rfl ⟨⟨_, hL_10⟩, (fun z hz => by rw [ho_10 z (by omega)]; rw [ho_8 z (by omega)]; rw [ho_1 z (by omega)])⟩ dX4_gain_79
      · skip
        refine lv_iconst (v := nI 5) hx hb dX4_gain_69 (by decide) ?_
        refine lv_goto (tgt := 74) hx hb dX4_gain_70 (by decide) ?_
        refine nv_add F dX4_gain_74 ?_
        refine nv_top (y := ((nI (lgr (gnL (AL S) j ch o rc) j + (if lst (gnL (AL S) j ch o rc) j then 5 else 0))))) (by rw [show lst (gnL (AL S) j ch o rc) j = _ from ‹lst (hrs 4 (adI (adI (AL S) j ch) o rc)) j = true›]; rfl) ?_
        refine lv_iconst (v := nI 2) hx hb dX4_gain_75 (by decide) ?_
        refine lv_iload_n hx hb dX4_gain_76 rfl (lv_at hl 2 rfl) ?_
        refine nv_mul F dX4_gain_77 ?_
        refine lv_isub hx hb dX4_gain_78 ?_
        exact rt_ie F hr hlk hW rfl ⟨⟨_, hL_10⟩, (fun z hz => by rw [ho_10 z (by omega)]; rw [ho_8 z (by omega)]; rw [ho_1 z (by omega)])⟩ dX4_gain_79
  · skip
    refine lv_aload_n hx hb dX4_gain_16 rfl (lv_at hl 0 rfl) ?_
    refine nv_get F hW (by omega) o0_1 rfl iX4 2 (by decide) tw_150 rfl dX4_gain_17 ?_
    refine lv_iload_n hx hb dX4_gain_20 rfl (lv_at hl 1 rfl) ?_
    refine lv_iconst (v := nI 3) hx hb dX4_gain_21 (by decide) ?_
    refine cl_ie (cl_run (rest := []) F hW e_X4_113 (c_addStones hI l h10b hL_1 hk_1 j 3 (by omega) (by omega)) ⟨Nat.le_of_ble_eq_true rfl, Nat.le_of_ble_eq_true rfl⟩ (by omega) o10_1 rfl rfl rfl hl (Nat.le_of_ble_eq_true rfl) dX4_gain_22 ⟨Nat.zero_le _, Nat.zero_le _⟩) hW (fun μ12 H locs q_12 hW => ?_)
    obtain ⟨hL_12, ho_12⟩ := q_12
    obtain ⟨_, _, _, _, _, _, o10_12, -⟩ := id hL_12
    have hk_12 := lok_addS hk_1 j 3
    have o0_12 := (ho_12 0 (by omega)).trans o0_1
    have o1_12 := (ho_12 1 (by omega)).trans o1_1
    have o3_12 := (ho_12 3 (by omega)).trans o3_1
    have o17_12 := (ho_12 17 (by omega)).trans o17_1
    have o117_12 := (ho_12 117 (by omega)).trans o117_1
    have o121_12 := (ho_12 121 (by omega)).trans o121_1
    have hLx3_12 := laneR_off hLx3_1 ho_12 (by omega)
    refine lv_pop hx hb dX4_gain_25 rfl ?_
    have hA1_13 : laneR cx μ12 10 (adI (AL S) j ch) := by unfold adI; rw [if_pos (by assumption)]; exact hL_12
    have hB1_13 := lok_adI hk j ch
    refine lv_iload hx hb dX4_gain_26 (lv_at hl 4 rfl) ?_
    refine lv_iconst (v := nI 1) hx hb dX4_gain_28 (by decide) ?_
    refine nv_cne (tgt := 42) F (by omega) (by omega) dX4_gain_29 (by decide) (fun c_14 => ?_) (fun c_14 => ?_)
    · skip
      have hA2_15 : laneR cx μ12 10 (adI (adI (AL S) j ch) o rc) := by unfold adI; rw [show (if rc = 1 then addS (if ch = 1 then addS (AL S) j 3 else AL S) o 3 else (if ch = 1 then addS (AL S) j 3 else AL S)) = _ from if_neg (by assumption)]; exact hA1_13
      have hB2_15 := lok_adI (lok_adI hk j ch) o rc
      refine lv_aload_n hx hb dX4_gain_42 rfl (lv_at hl 0 rfl) ?_
      refine nv_get F hW (by omega) o0_12 rfl iX4 2 (by decide) tw_150 rfl dX4_gain_43 ?_
      refine lv_iconst (v := nI 4) hx hb dX4_gain_46 (by decide) ?_
      refine cl_v (cl_run (rest := []) F hW e_X4_141 (c_passHours hI l h10b hA2_15 hB2_15 4 (by omega) (by omega)) ⟨Nat.le_of_ble_eq_true rfl, Nat.le_of_ble_eq_true rfl⟩ (by omega) o10_12 rfl rfl rfl hl (Nat.le_of_ble_eq_true rfl) dX4_gain_47 ⟨Nat.zero_le _, Nat.zero_le _⟩) hW (fun μ16 H locs q_16 hW => ?_)
      obtain ⟨hL_16, ho_16⟩ := q_16
      obtain ⟨_, _, _, _, _, _, o10_16, -⟩ := id hL_16
      have hk_16 := lok_hrs hB2_15 4
      have o0_16 := (ho_16 0 (by omega)).trans o0_12
      have o1_16 := (ho_16 1 (by omega)).trans o1_12
      have o3_16 := (ho_16 3 (by omega)).trans o3_12
      have o17_16 := (ho_16 17 (by omega)).trans o17_12
      have o117_16 := (ho_16 117 (by omega)).trans o117_12
      have o121_16 := (ho_16 121 (by omega)).trans o121_12
      have hLx3_16 := laneR_off hLx3_12 ho_16 (by omega)
      refine lv_aload_n hx hb dX4_gain_50 rfl (lv_at hl 0 rfl) ?_
      refine nv_get F hW (by omega) o0_16 rfl iX4 2 (by decide) tw_150 rfl dX4_gain_51 ?_
      refine lv_iload_n hx hb dX4_gain_54 rfl (lv_at hl 1 rfl) ?_
      refine cl_ip (cl_run (rest := []) F hW e_X4_96 (c_groundOf hI l h10b hL_16 hk_16 (by omega) j (by rw [hrs_n, adI_n, adI_n]; exact hj)) ⟨Nat.le_of_ble_eq_true rfl, Nat.le_of_ble_eq_true rfl⟩ (by omega) o10_16 rfl rfl rfl hl (Nat.le_of_ble_eq_true rfl) dX4_gain_55 ⟨Nat.zero_le _, Nat.zero_le _⟩) hW (fun H locs hW => ?_)
      refine lv_aload_n hx hb dX4_gain_58 rfl (lv_at hl 0 rfl) ?_
      refine nv_get F hW (by omega) o0_16 rfl iX4 2 (by decide) tw_150 rfl dX4_gain_59 ?_
      refine lv_iload_n hx hb dX4_gain_62 rfl (lv_at hl 1 rfl) ?_
      refine cl_ip (cl_run (rest := [.int (nI (lgr (hrs 4 (adI (adI (AL S) j ch) o rc)) j))]) F hW e_X4_87 (c_standsN hI l h10b hL_16 hk_16 j (by omega)) ⟨Nat.le_of_ble_eq_true rfl, Nat.le_of_ble_eq_true rfl⟩ (by omega) o10_16 rfl rfl rfl hl (Nat.le_of_ble_eq_true rfl) dX4_gain_63 ⟨Nat.zero_le _, Nat.zero_le _⟩) hW (fun H locs hW => ?_)
      refine nv_beq (tgt := 73) F dX4_gain_66 (by decide) (fun c_17 => ?_) (fun c_17 => ?_)
      · skip
        refine lv_iconst (v := nI 0) hx hb dX4_gain_73 (by decide) ?_
        refine nv_add F dX4_gain_74 ?_
        refine nv_top (y := ((nI (lgr (gnL (AL S) j ch o rc) j + (if lst (gnL (AL S) j ch o rc) j then 5 else 0))))) (by rw [show lst (gnL (AL S) j ch o rc) j = _ from ‹lst (hrs 4 (adI (adI (AL S) j ch) o rc)) j = false›]; rfl) ?_
        refine lv_iconst (v := nI 2) hx hb dX4_gain_75 (by decide) ?_
        refine lv_iload_n hx hb dX4_gain_76 rfl (lv_at hl 2 rfl) ?_
        refine nv_mul F dX4_gain_77 ?_
        refine lv_isub hx hb dX4_gain_78 ?_
        exact rt_ie F hr hlk hW rfl ⟨⟨_, hL_16⟩, (fun z hz => by rw [ho_16 z (by omega)]; rw [ho_12 z (by omega)]; rw [ho_1 z (by omega)])⟩ dX4_gain_79
      · skip
        refine lv_iconst (v := nI 5) hx hb dX4_gain_69 (by decide) ?_
        refine lv_goto (tgt := 74) hx hb dX4_gain_70 (by decide) ?_
        refine nv_add F dX4_gain_74 ?_
        refine nv_top (y := ((nI (lgr (gnL (AL S) j ch o rc) j + (if lst (gnL (AL S) j ch o rc) j then 5 else 0))))) (by rw [show lst (gnL (AL S) j ch o rc) j = _ from ‹lst (hrs 4 (adI (adI (AL S) j ch) o rc)) j = true›]; rfl) ?_
        refine lv_iconst (v := nI 2) hx hb dX4_gain_75 (by decide) ?_
        refine lv_iload_n hx hb dX4_gain_76 rfl (lv_at hl 2 rfl) ?_
        refine nv_mul F dX4_gain_77 ?_
        refine lv_isub hx hb dX4_gain_78 ?_
        exact rt_ie F hr hlk hW rfl ⟨⟨_, hL_16⟩, (fun z hz => by rw [ho_16 z (by omega)]; rw [ho_12 z (by omega)]; rw [ho_1 z (by omega)])⟩ dX4_gain_79
    · skip
      refine lv_aload_n hx hb dX4_gain_32 rfl (lv_at hl 0 rfl) ?_
      refine nv_get F hW (by omega) o0_12 rfl iX4 2 (by decide) tw_150 rfl dX4_gain_33 ?_
      refine lv_iload_n hx hb dX4_gain_36 rfl (lv_at hl 3 rfl) ?_
      refine lv_iconst (v := nI 3) hx hb dX4_gain_37 (by decide) ?_
      refine cl_ie (cl_run (rest := []) F hW e_X4_113 (c_addStones hI l h10b hA1_13 hB1_13 o 3 (by omega) (by omega)) ⟨Nat.le_of_ble_eq_true rfl, Nat.le_of_ble_eq_true rfl⟩ (by omega) o10_12 rfl rfl rfl hl (Nat.le_of_ble_eq_true rfl) dX4_gain_38 ⟨Nat.zero_le _, Nat.zero_le _⟩) hW (fun μ18 H locs q_18 hW => ?_)
      obtain ⟨hL_18, ho_18⟩ := q_18
      obtain ⟨_, _, _, _, _, _, o10_18, -⟩ := id hL_18
      have hk_18 := lok_addS hB1_13 o 3
      have o0_18 := (ho_18 0 (by omega)).trans o0_12
      have o1_18 := (ho_18 1 (by omega)).trans o1_12
      have o3_18 := (ho_18 3 (by omega)).trans o3_12
      have o17_18 := (ho_18 17 (by omega)).trans o17_12
      have o117_18 := (ho_18 117 (by omega)).trans o117_12
      have o121_18 := (ho_18 121 (by omega)).trans o121_12
      have hLx3_18 := laneR_off hLx3_12 ho_18 (by omega)
      refine lv_pop hx hb dX4_gain_41 rfl ?_
      have hA2_19 : laneR cx μ18 10 (adI (adI (AL S) j ch) o rc) := by unfold adI; rw [show (if rc = 1 then addS (if ch = 1 then addS (AL S) j 3 else AL S) o 3 else (if ch = 1 then addS (AL S) j 3 else AL S)) = _ from if_pos (by assumption)]; exact hL_18
      have hB2_19 := lok_adI (lok_adI hk j ch) o rc
      refine lv_aload_n hx hb dX4_gain_42 rfl (lv_at hl 0 rfl) ?_
      refine nv_get F hW (by omega) o0_18 rfl iX4 2 (by decide) tw_150 rfl dX4_gain_43 ?_
      refine lv_iconst (v := nI 4) hx hb dX4_gain_46 (by decide) ?_
      refine cl_v (cl_run (rest := []) F hW e_X4_141 (c_passHours hI l h10b hA2_19 hB2_19 4 (by omega) (by omega)) ⟨Nat.le_of_ble_eq_true rfl, Nat.le_of_ble_eq_true rfl⟩ (by omega) o10_18 rfl rfl rfl hl (Nat.le_of_ble_eq_true rfl) dX4_gain_47 ⟨Nat.zero_le _, Nat.zero_le _⟩) hW (fun μ20 H locs q_20 hW => ?_)
      obtain ⟨hL_20, ho_20⟩ := q_20
      obtain ⟨_, _, _, _, _, _, o10_20, -⟩ := id hL_20
      have hk_20 := lok_hrs hB2_19 4
      have o0_20 := (ho_20 0 (by omega)).trans o0_18
      have o1_20 := (ho_20 1 (by omega)).trans o1_18
      have o3_20 := (ho_20 3 (by omega)).trans o3_18
      have o17_20 := (ho_20 17 (by omega)).trans o17_18
      have o117_20 := (ho_20 117 (by omega)).trans o117_18
      have o121_20 := (ho_20 121 (by omega)).trans o121_18
      have hLx3_20 := laneR_off hLx3_18 ho_20 (by omega)
      refine lv_aload_n hx hb dX4_gain_50 rfl (lv_at hl 0 rfl) ?_
      refine nv_get F hW (by omega) o0_20 rfl iX4 2 (by decide) tw_150 rfl dX4_gain_51 ?_
      refine lv_iload_n hx hb dX4_gain_54 rfl (lv_at hl 1 rfl) ?_
      refine cl_ip (cl_run (rest := []) F hW e_X4_96 (c_groundOf hI l h10b hL_20 hk_20 (by omega) j (by rw [hrs_n, adI_n, adI_n]; exact hj)) ⟨Nat.le_of_ble_eq_true rfl, Nat.le_of_ble_eq_true rfl⟩ (by omega) o10_20 rfl rfl rfl hl (Nat.le_of_ble_eq_true rfl) dX4_gain_55 ⟨Nat.zero_le _, Nat.zero_le _⟩) hW (fun H locs hW => ?_)
      refine lv_aload_n hx hb dX4_gain_58 rfl (lv_at hl 0 rfl) ?_
      refine nv_get F hW (by omega) o0_20 rfl iX4 2 (by decide) tw_150 rfl dX4_gain_59 ?_
      refine lv_iload_n hx hb dX4_gain_62 rfl (lv_at hl 1 rfl) ?_
      refine cl_ip (cl_run (rest := [.int (nI (lgr (hrs 4 (adI (adI (AL S) j ch) o rc)) j))]) F hW e_X4_87 (c_standsN hI l h10b hL_20 hk_20 j (by omega)) ⟨Nat.le_of_ble_eq_true rfl, Nat.le_of_ble_eq_true rfl⟩ (by omega) o10_20 rfl rfl rfl hl (Nat.le_of_ble_eq_true rfl) dX4_gain_63 ⟨Nat.zero_le _, Nat.zero_le _⟩) hW (fun H locs hW => ?_)
      refine nv_beq (tgt := 73) F dX4_gain_66 (by decide) (fun c_21 => ?_) (fun c_21 => ?_)
      · skip
        refine lv_iconst (v := nI 0) hx hb dX4_gain_73 (by decide) ?_
        refine nv_add F dX4_gain_74 ?_
        refine nv_top (y := ((nI (lgr (gnL (AL S) j ch o rc) j + (if lst (gnL (AL S) j ch o rc) j then 5 else 0))))) (by rw [show lst (gnL (AL S) j ch o rc) j = _ from ‹lst (hrs 4 (adI (adI (AL S) j ch) o rc)) j = false›]; rfl) ?_
        refine lv_iconst (v := nI 2) hx hb dX4_gain_75 (by decide) ?_
        refine lv_iload_n hx hb dX4_gain_76 rfl (lv_at hl 2 rfl) ?_
        refine nv_mul F dX4_gain_77 ?_
        refine lv_isub hx hb dX4_gain_78 ?_
        exact rt_ie F hr hlk hW rfl ⟨⟨_, hL_20⟩, (fun z hz => by rw [ho_20 z (by omega)]; rw [ho_18 z (by omega)]; rw [ho_12 z (by omega)]; rw [ho_1 z (by omega)])⟩ dX4_gain_79
      · skip
        refine lv_iconst (v := nI 5) hx hb dX4_gain_69 (by decide) ?_
        refine lv_goto (tgt := 74) hx hb dX4_gain_70 (by decide) ?_
        refine nv_add F dX4_gain_74 ?_
        refine nv_top (y := ((nI (lgr (gnL (AL S) j ch o rc) j + (if lst (gnL (AL S) j ch o rc) j then 5 else 0))))) (by rw [show lst (gnL (AL S) j ch o rc) j = _ from ‹lst (hrs 4 (adI (adI (AL S) j ch) o rc)) j = true›]; rfl) ?_
        refine lv_iconst (v := nI 2) hx hb dX4_gain_75 (by decide) ?_
        refine lv_iload_n hx hb dX4_gain_76 rfl (lv_at hl 2 rfl) ?_
        refine nv_mul F dX4_gain_77 ?_
        refine lv_isub hx hb dX4_gain_78 ?_
        exact rt_ie F hr hlk hW rfl ⟨⟨_, hL_20⟩, (fun z hz => by rw [ho_20 z (by omega)]; rw [ho_18 z (by omega)]; rw [ho_12 z (by omega)]; rw [ho_1 z (by omega)])⟩ dX4_gain_79

set_option maxHeartbeats 4000000 in
set_option maxRecDepth 100000 in
theorem c_prefers {cx : CX} (hI : xI cx) (l : Launch) {μ : ME} {S : AS} {B : Nat} (hN : 136 ≤ xN cx) (hM : mainR cx μ S) (hA : aok S B) (hB : B < 800000) (j ch o rc : Nat) (hj : j < Ln (AL S)) (hoo : o < Ln (AL S)) (hch : ch ≤ 1) (hrc : rc ≤ 1) : MT cx l yX4_prefers cX4_prefers 5 (some .boolean) 5 161 [.ref (xa cx 0), .int (nI j), .int (nI ch), .int (nI o), .int (nI rc)] μ (Ei cx (b2 (prB (AL S) j ch o rc)) (fun μ1 => (∃ L1, laneR cx μ1 10 L1) ∧ off 10 7 μ μ1)) := by
  refine mt_of hI (by decide) (Nat.le_of_ble_eq_true rfl) ?_
  intro p e s m below meth c ls F hr hlk hW hl
  have hx := F.1.1
  have hb := F.1.2.1
  have hts := F.1.2.2.2.2
  obtain ⟨m0, hT, hL, ⟨LT, hLT⟩, hPa, hSe, hSl⟩ := id hM
  have hk := hA.2.1
  have hn6 := hk.1
  have h3b : 3 + 7 ≤ xN cx := by omega
  have h10b : 10 + 7 ≤ xN cx := by omega
  obtain ⟨_, _, _, _, _, _, o3, -⟩ := id hL
  obtain ⟨_, _, _, _, _, _, o10, -⟩ := id hLT
  obtain ⟨_, o1, -⟩ := id hT
  obtain ⟨_, _, o17, -⟩ := id hPa
  obtain ⟨_, _, _, o117, -⟩ := id hSe
  obtain ⟨⟨gs, o121, hgs⟩, hsl2, hsl3⟩ := id hSl
  have hl : lv_has ls 5 [(0, .ref (xa cx 0)), (1, .int (nI j)), (2, .int (nI ch)), (3, .int (nI o)), (4, .int (nI rc))] := hl
  refine lv_aload_n hx hb dX4_prefers_0 rfl (lv_at hl 0 rfl) ?_
  refine lv_iload_n hx hb dX4_prefers_1 rfl (lv_at hl 1 rfl) ?_
  refine lv_iload_n hx hb dX4_prefers_2 rfl (lv_at hl 2 rfl) ?_
  refine lv_iload_n hx hb dX4_prefers_3 rfl (lv_at hl 3 rfl) ?_
  refine lv_iload hx hb dX4_prefers_4 (lv_at hl 4 rfl) ?_
  refine cl_ie (cl_run (rest := []) F hW e_X4_240 (c_gain hI l hN (mainR_trial hM off_rf ⟨_, hLT⟩) hA hB j ch o rc (by omega) (by omega) (by omega) (by omega)) ⟨Nat.le_of_ble_eq_true rfl, Nat.le_of_ble_eq_true rfl⟩ (by omega) m0 rfl rfl rfl hl (Nat.le_of_ble_eq_true rfl) dX4_prefers_6 ⟨Nat.zero_le _, Nat.zero_le _⟩) hW (fun μ1 H locs q_1 hW => ?_)
  obtain ⟨⟨L1_1, hL_1⟩, ho_1⟩ := q_1
  obtain ⟨_, _, _, _, _, _, o10_1, -⟩ := id hL_1
  have o0_1 := (ho_1 0 (by omega)).trans m0
  have o1_1 := (ho_1 1 (by omega)).trans o1
  have o3_1 := (ho_1 3 (by omega)).trans o3
  have o17_1 := (ho_1 17 (by omega)).trans o17
  have o117_1 := (ho_1 117 (by omega)).trans o117
  have o121_1 := (ho_1 121 (by omega)).trans o121
  have hLx3_1 := laneR_off hL ho_1 (by omega)
  refine lv_aload_n hx hb dX4_prefers_9 rfl (lv_at hl 0 rfl) ?_
  refine lv_iload_n hx hb dX4_prefers_10 rfl (lv_at hl 1 rfl) ?_
  refine lv_iconst (v := nI 1) hx hb dX4_prefers_11 (by decide) ?_
  refine lv_iload_n hx hb dX4_prefers_12 rfl (lv_at hl 2 rfl) ?_
  refine nv_sub F (by omega) dX4_prefers_13 ?_
  refine lv_iload_n hx hb dX4_prefers_14 rfl (lv_at hl 3 rfl) ?_
  refine lv_iload hx hb dX4_prefers_15 (lv_at hl 4 rfl) ?_
  refine cl_ie (cl_run (rest := [.int (gnI (AL S) j ch o rc)]) F hW e_X4_240 (c_gain hI l hN (mainR_trial hM (fun z hz => by rw [ho_1 z (by omega)]) ⟨_, hL_1⟩) hA hB j (1 - ch) o rc (by omega) (by omega) (by omega) (by omega)) ⟨Nat.le_of_ble_eq_true rfl, Nat.le_of_ble_eq_true rfl⟩ (by omega) o0_1 rfl rfl rfl hl (Nat.le_of_ble_eq_true rfl) dX4_prefers_17 ⟨Nat.zero_le _, Nat.zero_le _⟩) hW (fun μ2 H locs q_2 hW => ?_)
  obtain ⟨⟨L1_2, hL_2⟩, ho_2⟩ := q_2
  obtain ⟨_, _, _, _, _, _, o10_2, -⟩ := id hL_2
  have o0_2 := (ho_2 0 (by omega)).trans o0_1
  have o1_2 := (ho_2 1 (by omega)).trans o1_1
  have o3_2 := (ho_2 3 (by omega)).trans o3_1
  have o17_2 := (ho_2 17 (by omega)).trans o17_1
  have o117_2 := (ho_2 117 (by omega)).trans o117_1
  have o121_2 := (ho_2 121 (by omega)).trans o121_1
  have hLx3_2 := laneR_off hLx3_1 ho_2 (by omega)
  refine lv_icmp_lt (tgt := 27) hx hb dX4_prefers_20 (by decide) (fun c_3 => ?_) (fun c_3 => ?_)
  · skip
    refine lv_iconst (v := nI 0) hx hb dX4_prefers_27 (by decide) ?_
    exact rt_ze F hr hlk hW (b2_f (fun q => q (by assumption))) ⟨⟨_, hL_2⟩, (fun z hz => by rw [ho_2 z (by omega)]; rw [ho_1 z (by omega)])⟩ dX4_prefers_28
  · skip
    refine lv_iconst (v := nI 1) hx hb dX4_prefers_23 (by decide) ?_
    refine lv_goto (tgt := 28) hx hb dX4_prefers_24 (by decide) ?_
    exact rt_ze F hr hlk hW (b2_t (by assumption)) ⟨⟨_, hL_2⟩, (fun z hz => by rw [ho_2 z (by omega)]; rw [ho_1 z (by omega)])⟩ dX4_prefers_28
