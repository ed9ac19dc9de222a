theorem ff_some {t : Nat → Nat} : ∀ (d i p : Nat), ff t d i = some p → p < i + d := by
  intro d
  induction d with
  | zero => intro i p h; cases h
  | succ d ih =>
    intro i p h
    unfold ff at h
    split at h
    · have := ih (i + 1) p h
      omega
    · cases h
      omega
theorem nI_ne {p : Nat} (hp : p < 2147483648) {k : Int32} (hk : k.toInt < 0) : ¬ nI p = k := by
  intro h
  have := congrArg Int32.toInt h
  rw [nI_toInt hp] at this
  omega
theorem fault_none {t : Nat → Nat} {n : Nat} (h : faultI t n = -9) (hn : n ≤ 64) : ff t n 0 = none ∧ n % 5 = 1 := by
  unfold faultI at h
  split at h
  · rename_i p q
    have := ff_some n 0 p q
    exact absurd h (nI_ne (by omega) (by decide))
  · split at h
    · exact ⟨by assumption, by assumption⟩
    · exact absurd h (nI_ne (by omega) (by decide))
def r_lane (S : AS) : Int32 := if faultI (At S) (An S) = -9 then nI (An S / 5) else -3
def s_lane (S : AS) : AS := if faultI (At S) (An S) = -9 then uK (uL S (readL (At S) (An S)) (AP S) 0) 0 (AK S) else S
theorem slotR_0 {cx : CX} {μ : ME} {k : Nat} {K : Nat → LN} (h : slotR cx μ k K) : slotR cx μ 0 K := ⟨h.1, h.2.1, fun j hj hb => absurd hb (by rw [Nat.zero_testBit]; decide)⟩
theorem readL_n6 {t : Nat → Nat} {n : Nat} (h : ff t n 0 = none) : Ln (readL t n) ≤ 6 := by
  have := ff_31 h
  show n / 5 ≤ 6
  omega
theorem td_le (t : Nat → Nat) (h : Nat) : td t h ≤ 2 := by
  unfold td deedN
  split
  · omega
  · split <;> omega
theorem lok_readL {t : Nat → Nat} {n : Nat} (h : ff t n 0 = none) (h5 : n % 5 = 1) : lok (readL t n) 600 := by
  have hn := ff_31 h
  have hd : ∀ i q, i < n / 5 → q < 3 → 48 ≤ t (2 + 5 * i + q) ∧ t (2 + 5 * i + q) ≤ 57 ∧ (q = 0 → t (2 + 5 * i + q) ≤ 52) := fun i q hi hq => fit_digit (ff_none n 0 h _ (by omega) (by omega)) hq
  have hs : ∀ i, i < n / 5 → ts t i ≤ 9 := fun i hi => by have := hd i 1 hi (by omega); unfold ts; omega
  have hl : ∀ i, (if i < n / 5 ∧ ¬ tk t i = 4 then ts t i else 0) ≤ 9 := by
    intro i
    split
    · rename_i q
      exact hs i q.1
    · omega
  refine ⟨readL_n6 h, bitsOf_lt _ _, by show 0 ≤ 600; omega, fun i hi => ⟨?_, ?_, ?_, ?_⟩, fun i hi => ?_, fun i hi => ?_, ?_⟩
  · show tk t i ≤ 4
    have := hd i 0 hi (by omega)
    unfold tk
    omega
  · show ts t i ≤ 99
    have := hs i hi
    omega
  · show tg t i ≤ 9
    have := hd i 2 hi (by omega)
    unfold tg
    omega
  · show td t i ≤ 3
    have := td_le t i
    omega
  · have hb : (bitsOf (fun h => decide (¬ tk t h = 4)) (n / 5)).testBit i = true := by
      unfold lst at hi
      simp only [Bool.and_eq_true] at hi
      exact hi.2
    rw [testBit_bitsOf] at hb
    simp only [Bool.and_eq_true, decide_eq_true_eq] at hb
    exact hb.2
  · show (if i < n / 5 ∧ ¬ tk t i = 4 then ts t i else 0) = 0
    rw [if_neg]
    intro q
    unfold lst at hi
    have hb : (bitsOf (fun h => decide (¬ tk t h = 4)) (n / 5)).testBit i = true := by
      rw [testBit_bitsOf, decide_eq_true q.1, decide_eq_true q.2]
      rfl
    have h1 : decide (i < Ln (readL t n)) = true := decide_eq_true q.1
    rw [h1, show (LU (readL t n)).testBit i = true from hb] at hi
    cases hi
  · have a0 := hl 0
    have a1 := hl 1
    have a2 := hl 2
    have a3 := hl 3
    have a4 := hl 4
    have a5 := hl 5
    show (if 0 < n / 5 ∧ ¬ tk t 0 = 4 then ts t 0 else 0) + (if 1 < n / 5 ∧ ¬ tk t 1 = 4 then ts t 1 else 0) + (if 2 < n / 5 ∧ ¬ tk t 2 = 4 then ts t 2 else 0) + (if 3 < n / 5 ∧ ¬ tk t 3 = 4 then ts t 3 else 0) + (if 4 < n / 5 ∧ ¬ tk t 4 = 4 then ts t 4 else 0) + (if 5 < n / 5 ∧ ¬ tk t 5 = 4 then ts t 5 else 0) ≤ 600
    omega

set_option maxHeartbeats 4000000 in
set_option maxRecDepth 100000 in
theorem k_lane {cx : CX} (hI : xI cx) (l : Launch) {μ : ME} {S : AS} {B : Nat} (hN : 136 ≤ xN cx) (hM : mainR cx μ S) (hA : aok S B) (hB : B < 800000) : MT cx l yX4_lane cX4_lane 1 (some .int) 3 67 [.ref (xa cx 0)] μ (Ei cx (r_lane S) (fun μ1 => mainR cx μ1 (s_lane S) ∧ off 0 136 μ μ1)) := by
  refine mt_of hI (by decide) (Nat.le_of_ble_eq_true rfl) ?_
  intro p e s m below meth c ls F hr hlk hW hl
  have hx := F.1.1
  have hb := F.1.2.1
  have hts := F.1.2.2.2.2
  obtain ⟨m0, hT, hL, ⟨LT, hLT⟩, hPa, hSe, hSl⟩ := id hM
  have hk := hA.2.1
  have hn6 := hk.1
  have h3b : 3 + 7 ≤ xN cx := by omega
  have h10b : 10 + 7 ≤ xN cx := by omega
  obtain ⟨_, _, _, _, _, _, o3, -⟩ := id hL
  obtain ⟨_, _, _, _, _, _, o10, -⟩ := id hLT
  obtain ⟨_, o1, -⟩ := id hT
  obtain ⟨_, _, o17, -⟩ := id hPa
  obtain ⟨_, _, _, o117, -⟩ := id hSe
  obtain ⟨⟨gs, o121, hgs⟩, hsl2, hsl3⟩ := id hSl
  have hl : lv_has ls 1 [(0, .ref (xa cx 0))] := hl
  refine lv_aload_n hx hb dX4_lane_0 rfl (lv_at hl 0 rfl) ?_
  refine nv_get F hW (by omega) m0 rfl iX4 0 (by decide) tw_148 rfl dX4_lane_1 ?_
  refine cl_ip (cl_run (rest := []) F hW e_X4_55 (c_firstFault hI l (by omega) hT hA.1) ⟨Nat.le_of_ble_eq_true rfl, Nat.le_of_ble_eq_true rfl⟩ (by omega) o1 rfl rfl rfl hl (Nat.le_of_ble_eq_true rfl) dX4_lane_4 ⟨Nat.zero_le _, Nat.zero_le _⟩) hW (fun H locs hW => ?_)
  refine lv_bipush (v := (-9)) hx hb dX4_lane_7 (by decide) ?_
  refine lv_icmp_eq (tgt := 15) hx hb dX4_lane_9 (by decide) (fun c_1 => ?_) (fun c_1 => ?_)
  · skip
    have hff := fault_none c_1 hA.1.1
    refine lv_aload_n hx hb dX4_lane_15 rfl (lv_at hl 0 rfl) ?_
    refine nv_get F hW (by omega) m0 rfl iX4 1 (by decide) tw_149 rfl dX4_lane_16 ?_
    refine lv_aload_n hx hb dX4_lane_19 rfl (lv_at hl 0 rfl) ?_
    refine nv_get F hW (by omega) m0 rfl iX4 0 (by decide) tw_148 rfl dX4_lane_20 ?_
    refine cl_v (cl_run (rest := []) F hW e_X4_58 (c_readFrom hI l h3b (by omega) (by omega) hL hT hA.1 hff.1 hff.2) ⟨Nat.le_of_ble_eq_true rfl, Nat.le_of_ble_eq_true rfl⟩ (by omega) o3 rfl rfl rfl hl (Nat.le_of_ble_eq_true rfl) dX4_lane_23 ⟨Nat.zero_le _, Nat.zero_le _⟩) hW (fun μ2 H locs q_2 hW => ?_)
    obtain ⟨hL_2, ho_2⟩ := q_2
    obtain ⟨_, _, _, _, _, _, o3_2, -⟩ := id hL_2
    have hk_2 := lok_readL hff.1 hff.2
    have o0_2 := (ho_2 0 (by omega)).trans m0
    have o1_2 := (ho_2 1 (by omega)).trans o1
    have o10_2 := (ho_2 10 (by omega)).trans o10
    have o17_2 := (ho_2 17 (by omega)).trans o17
    have o117_2 := (ho_2 117 (by omega)).trans o117
    have o121_2 := (ho_2 121 (by omega)).trans o121
    have hLx10_2 := laneR_off hLT ho_2 (by omega)
    refine lv_aload_n hx hb dX4_lane_26 rfl (lv_at hl 0 rfl) ?_
    refine nv_get F hW (by omega) o0_2 rfl iX4 3 (by decide) tw_151 rfl dX4_lane_27 ?_
    refine cl_v (cl_run (rest := []) F hW e_X4_62 (c_pclear hI l (by omega) (pastR_off hPa ho_2 (by omega))) ⟨Nat.le_of_ble_eq_true rfl, Nat.le_of_ble_eq_true rfl⟩ (by omega) o17_2 rfl rfl rfl hl (Nat.le_of_ble_eq_true rfl) dX4_lane_30 ⟨Nat.zero_le _, Nat.zero_le _⟩) hW (fun μ3 H locs q_3 hW => ?_)
    obtain ⟨hP_3, ho_3⟩ := q_3
    have o0_3 := (ho_3 0 (by omega)).trans o0_2
    have o1_3 := (ho_3 1 (by omega)).trans o1_2
    have o10_3 := (ho_3 10 (by omega)).trans o10_2
    have o117_3 := (ho_3 117 (by omega)).trans o117_2
    have o121_3 := (ho_3 121 (by omega)).trans o121_2
    have o3_3 := (ho_3 3 (by omega)).trans o3_2
    have hLx3_3 := laneR_off hL_2 ho_3 (by omega)
    have hLx10_3 := laneR_off hLx10_2 ho_3 (by omega)
    obtain ⟨_, _, o17_3, -⟩ := id hP_3
    refine lv_aload_n hx hb dX4_lane_33 rfl (lv_at hl 0 rfl) ?_
    refine lv_iconst (v := nI 0) hx hb dX4_lane_34 (by decide) ?_
    refine nv_put F hW (by omega) o0_3 rfl iX4 tyX4 tyX4_ok nmX4 6 (by decide) tw_154 rfl rfl rfl (Nat.le_of_ble_eq_true rfl) dX4_lane_35 (fun H locs hW => ?_)
    obtain ⟨μ4, eμ4⟩ : ∃ zz9 : ME, zz9 = va_up μ3 0 (.inr (4, [.ref (xa cx 1), .ref (xa cx 3), .ref (xa cx 10), .ref (xa cx 17), .ref (xa cx 117), .ref (xa cx 121), .int (nI 0), .long (Ad S)])) := ⟨_, rfl⟩
    have hW : St cx s μ4 H locs := by rw [eμ4]; exact hW
    have h0_4 : μ4 0 = .inr (4, [.ref (xa cx 1), .ref (xa cx 3), .ref (xa cx 10), .ref (xa cx 17), .ref (xa cx 117), .ref (xa cx 121), .int (nI 0), .long (Ad S)]) := by rw [eμ4, va_up_self]
    have h1_4 := (congrFun eμ4 1).trans ((va_up_ne _ _ (by omega)).trans o1_3)
    have h10_4 := (congrFun eμ4 10).trans ((va_up_ne _ _ (by omega)).trans o10_3)
    have h117_4 := (congrFun eμ4 117).trans ((va_up_ne _ _ (by omega)).trans o117_3)
    have h121_4 := (congrFun eμ4 121).trans ((va_up_ne _ _ (by omega)).trans o121_3)
    have h3_4 := (congrFun eμ4 3).trans ((va_up_ne _ _ (by omega)).trans o3_3)
    have h17_4 := (congrFun eμ4 17).trans ((va_up_ne _ _ (by omega)).trans o17_3)
    have hou4 : off 0 1 μ3 μ4 := fun z hz => by rw [eμ4, va_up_ne _ _ (by omega)]
    have hLu3_4 := laneR_off hLx3_3 hou4 (by omega)
    have hLu10_4 := laneR_off hLx10_3 hou4 (by omega)
    refine lv_aload_n hx hb dX4_lane_38 rfl (lv_at hl 0 rfl) ?_
    refine nv_get F hW (by omega) h0_4 rfl iX4 1 (by decide) tw_149 rfl dX4_lane_39 ?_
    refine cl_ip (cl_run (rest := []) F hW e_X4_68 (c_size hI l h3b hLu3_4 hk_2) ⟨Nat.le_of_ble_eq_true rfl, Nat.le_of_ble_eq_true rfl⟩ (by omega) h3_4 rfl rfl rfl hl (Nat.le_of_ble_eq_true rfl) dX4_lane_42 ⟨Nat.zero_le _, Nat.zero_le _⟩) hW (fun H locs hW => ?_)
    exact rt_ie F hr hlk hW (by unfold r_lane; rw [if_pos (by assumption)]; rfl) ⟨by unfold s_lane; rw [if_pos (by assumption)]; exact ⟨h0_4, (textR_off (textR_off (textR_off hT ho_2 (by omega)) ho_3 (by omega)) hou4 (by omega)), hLu3_4, ⟨_, hLu10_4⟩, (pastR_off hP_3 hou4 (by omega)), (seenR_off (seenR_off (seenR_off hSe ho_2 (by omega)) ho_3 (by omega)) hou4 (by omega)), (slotR_0 (slotR_off (slotR_off (slotR_off hSl ho_2 (by omega)) ho_3 (by omega)) hou4 (by omega)))⟩, (fun z hz => by rw [hou4 z (by omega)]; rw [ho_3 z (by omega)]; rw [ho_2 z (by omega)])⟩ dX4_lane_45
  · skip
    refine lv_bipush (v := (-3)) hx hb dX4_lane_12 (by decide) ?_
    exact rt_ie F hr hlk hW (by unfold r_lane; rw [if_neg (by assumption)]) ⟨by unfold s_lane; rw [if_neg (by assumption)]; exact hM, off_rf⟩ dX4_lane_14

def hwN (L : LN) (j q : Nat) : Int32 := if q = 0 then nI (Lk L j) else if q = 1 then nI (Ls L j) else if q = 2 then nI (Lg L j) else if q = 3 then nI (Ld L j) else if q = 4 then (if lst L j then nI 1 else nI 0) else if q = 5 then nI (Ll L j) else if q = 6 then nI (lgi L j) else nI (lgr L j)
def r_house (S : AS) (h w : Int32) : Int32 := if inR h (Ln (AL S)) then (if inR w 8 then hwN (AL S) h.toNatClampNeg w.toNatClampNeg else -2) else -1
theorem inR_j {j n : Nat} (hj : j < n) (hn : n < 2147483648) : inR (nI j) n = true := by
  rw [inR_nI (by omega)]
  exact decide_eq_true hj

set_option maxHeartbeats 4000000 in
set_option maxRecDepth 100000 in
theorem k_house {cx : CX} (hI : xI cx) (l : Launch) {μ : ME} {S : AS} {B : Nat} (hN : 136 ≤ xN cx) (hM : mainR cx μ S) (hA : aok S B) (hB : B < 800000) (h w : Int32) : MT cx l yX4_house cX4_house 3 (some .int) 3 63 [.ref (xa cx 0), .int h, .int w] μ (Ei cx (r_house S h w) (fun μ1 => mainR cx μ1 S ∧ off 0 136 μ μ1)) := by
  refine mt_of hI (by decide) (Nat.le_of_ble_eq_true rfl) ?_
  intro p e s m below meth c ls F hr hlk hW hl
  have hx := F.1.1
  have hb := F.1.2.1
  have hts := F.1.2.2.2.2
  obtain ⟨m0, hT, hL, ⟨LT, hLT⟩, hPa, hSe, hSl⟩ := id hM
  have hk := hA.2.1
  have hn6 := hk.1
  have h3b : 3 + 7 ≤ xN cx := by omega
  have h10b : 10 + 7 ≤ xN cx := by omega
  obtain ⟨_, _, _, _, _, _, o3, -⟩ := id hL
  obtain ⟨_, _, _, _, _, _, o10, -⟩ := id hLT
  obtain ⟨_, o1, -⟩ := id hT
  obtain ⟨_, _, o17, -⟩ := id hPa
  obtain ⟨_, _, _, o117, -⟩ := id hSe
  obtain ⟨⟨gs, o121, hgs⟩, hsl2, hsl3⟩ := id hSl
  have hl : lv_has ls 3 [(0, .ref (xa cx 0)), (1, .int h), (2, .int w)] := hl
  refine lv_aload_n hx hb dX4_house_0 rfl (lv_at hl 0 rfl) ?_
  refine nv_get F hW (by omega) m0 rfl iX4 1 (by decide) tw_149 rfl dX4_house_1 ?_
  refine lv_iload_n hx hb dX4_house_4 rfl (lv_at hl 1 rfl) ?_
  refine cl_ip (cl_run (rest := []) F hW e_X4_71 (c_has hI l h3b hL hk h) ⟨Nat.le_of_ble_eq_true rfl, Nat.le_of_ble_eq_true rfl⟩ (by omega) o3 rfl rfl rfl hl (Nat.le_of_ble_eq_true rfl) dX4_house_5 ⟨Nat.zero_le _, Nat.zero_le _⟩) hW (fun H locs hW => ?_)
  refine nv_bne (tgt := 13) F dX4_house_8 (by decide) (fun c_1 => ?_) (fun c_1 => ?_)
  · skip
    obtain ⟨j, hj, rfl⟩ := inR_of c_1 (by omega)
    refine lv_iload_n hx hb dX4_house_13 rfl (lv_at hl 2 rfl) ?_
    by_cases hin8 : inR w 8 = true
    · skip
      obtain ⟨q, hq, rfl⟩ := inR_of hin8 (by decide)
      rcases (show q = 0 ∨ q = 1 ∨ q = 2 ∨ q = 3 ∨ q = 4 ∨ q = 5 ∨ q = 6 ∨ q = 7 by omega) with rfl | rfl | rfl | rfl | rfl | rfl | rfl | rfl
      · skip
        refine lv_tableIn (tgt := 60) hx hb dX4_house_14 (by decide) (by decide) rfl (by decide) ?_
        refine lv_aload_n hx hb dX4_house_60 rfl (lv_at hl 0 rfl) ?_
        refine nv_get F hW (by omega) m0 rfl iX4 1 (by decide) tw_149 rfl dX4_house_61 ?_
        refine lv_iload_n hx hb dX4_house_64 rfl (lv_at hl 1 rfl) ?_
        refine cl_ip (cl_run (rest := []) F hW e_X4_74 (c_kindOf hI l h3b hL hk j (by omega)) ⟨Nat.le_of_ble_eq_true rfl, Nat.le_of_ble_eq_true rfl⟩ (by omega) o3 rfl rfl rfl hl (Nat.le_of_ble_eq_true rfl) dX4_house_65 ⟨Nat.zero_le _, Nat.zero_le _⟩) hW (fun H locs hW => ?_)
        exact rt_ie F hr hlk hW (by unfold r_house; rw [inR_j hj (by omega), if_pos rfl, if_pos hin8, nI_clamp (by omega), nI_clamp (by omega)]; first | rfl | (show _ = (if lst (AL S) j = true then nI 1 else nI 0); rw [‹lst (AL S) j = _›]; rfl)) ⟨hM, off_rf⟩ dX4_house_68
      · skip
        refine lv_tableIn (tgt := 69) hx hb dX4_house_14 (by decide) (by decide) rfl (by decide) ?_
        refine lv_aload_n hx hb dX4_house_69 rfl (lv_at hl 0 rfl) ?_
        refine nv_get F hW (by omega) m0 rfl iX4 1 (by decide) tw_149 rfl dX4_house_70 ?_
        refine lv_iload_n hx hb dX4_house_73 rfl (lv_at hl 1 rfl) ?_
        refine cl_ip (cl_run (rest := []) F hW e_X4_78 (c_stonesOf hI l h3b hL hk j (by omega)) ⟨Nat.le_of_ble_eq_true rfl, Nat.le_of_ble_eq_true rfl⟩ (by omega) o3 rfl rfl rfl hl (Nat.le_of_ble_eq_true rfl) dX4_house_74 ⟨Nat.zero_le _, Nat.zero_le _⟩) hW (fun H locs hW => ?_)
        exact rt_ie F hr hlk hW (by unfold r_house; rw [inR_j hj (by omega), if_pos rfl, if_pos hin8, nI_clamp (by omega), nI_clamp (by omega)]; first | rfl | (show _ = (if lst (AL S) j = true then nI 1 else nI 0); rw [‹lst (AL S) j = _›]; rfl)) ⟨hM, off_rf⟩ dX4_house_77
      · skip
        refine lv_tableIn (tgt := 78) hx hb dX4_house_14 (by decide) (by decide) rfl (by decide) ?_
        refine lv_aload_n hx hb dX4_house_78 rfl (lv_at hl 0 rfl) ?_
        refine nv_get F hW (by omega) m0 rfl iX4 1 (by decide) tw_149 rfl dX4_house_79 ?_
        refine lv_iload_n hx hb dX4_house_82 rfl (lv_at hl 1 rfl) ?_
        refine cl_ip (cl_run (rest := []) F hW e_X4_81 (c_strengthOf hI l h3b hL hk j (by omega)) ⟨Nat.le_of_ble_eq_true rfl, Nat.le_of_ble_eq_true rfl⟩ (by omega) o3 rfl rfl rfl hl (Nat.le_of_ble_eq_true rfl) dX4_house_83 ⟨Nat.zero_le _, Nat.zero_le _⟩) hW (fun H locs hW => ?_)
        exact rt_ie F hr hlk hW (by unfold r_house; rw [inR_j hj (by omega), if_pos rfl, if_pos hin8, nI_clamp (by omega), nI_clamp (by omega)]; first | rfl | (show _ = (if lst (AL S) j = true then nI 1 else nI 0); rw [‹lst (AL S) j = _›]; rfl)) ⟨hM, off_rf⟩ dX4_house_86
      · skip
        refine lv_tableIn (tgt := 87) hx hb dX4_house_14 (by decide) (by decide) rfl (by decide) ?_
        refine lv_aload_n hx hb dX4_house_87 rfl (lv_at hl 0 rfl) ?_
        refine nv_get F hW (by omega) m0 rfl iX4 1 (by decide) tw_149 rfl dX4_house_88 ?_
        refine lv_iload_n hx hb dX4_house_91 rfl (lv_at hl 1 rfl) ?_
        refine cl_ip (cl_run (rest := []) F hW e_X4_84 (c_deedOf hI l h3b hL hk j (by omega)) ⟨Nat.le_of_ble_eq_true rfl, Nat.le_of_ble_eq_true rfl⟩ (by omega) o3 rfl rfl rfl hl (Nat.le_of_ble_eq_true rfl) dX4_house_92 ⟨Nat.zero_le _, Nat.zero_le _⟩) hW (fun H locs hW => ?_)
        exact rt_ie F hr hlk hW (by unfold r_house; rw [inR_j hj (by omega), if_pos rfl, if_pos hin8, nI_clamp (by omega), nI_clamp (by omega)]; first | rfl | (show _ = (if lst (AL S) j = true then nI 1 else nI 0); rw [‹lst (AL S) j = _›]; rfl)) ⟨hM, off_rf⟩ dX4_house_95
      · skip
        refine lv_tableIn (tgt := 96) hx hb dX4_house_14 (by decide) (by decide) rfl (by decide) ?_
        refine lv_aload_n hx hb dX4_house_96 rfl (lv_at hl 0 rfl) ?_
        refine nv_get F hW (by omega) m0 rfl iX4 1 (by decide) tw_149 rfl dX4_house_97 ?_
        refine lv_iload_n hx hb dX4_house_100 rfl (lv_at hl 1 rfl) ?_
        refine cl_ip (cl_run (rest := []) F hW e_X4_87 (c_standsN hI l h3b hL hk j (by omega)) ⟨Nat.le_of_ble_eq_true rfl, Nat.le_of_ble_eq_true rfl⟩ (by omega) o3 rfl rfl rfl hl (Nat.le_of_ble_eq_true rfl) dX4_house_101 ⟨Nat.zero_le _, Nat.zero_le _⟩) hW (fun H locs hW => ?_)
        refine nv_beq (tgt := 111) F dX4_house_104 (by decide) (fun c_2 => ?_) (fun c_2 => ?_)
        · skip
          refine lv_iconst (v := nI 0) hx hb dX4_house_111 (by decide) ?_
          exact rt_ie F hr hlk hW (by unfold r_house; rw [inR_j hj (by omega), if_pos rfl, if_pos hin8, nI_clamp (by omega), nI_clamp (by omega)]; first | rfl | (show _ = (if lst (AL S) j = true then nI 1 else nI 0); rw [‹lst (AL S) j = _›]; rfl)) ⟨hM, off_rf⟩ dX4_house_112
        · skip
          refine lv_iconst (v := nI 1) hx hb dX4_house_107 (by decide) ?_
          refine lv_goto (tgt := 112) hx hb dX4_house_108 (by decide) ?_
          exact rt_ie F hr hlk hW (by unfold r_house; rw [inR_j hj (by omega), if_pos rfl, if_pos hin8, nI_clamp (by omega), nI_clamp (by omega)]; first | rfl | (show _ = (if lst (AL S) j = true then nI 1 else nI 0); rw [‹lst (AL S) j = _›]; rfl)) ⟨hM, off_rf⟩ dX4_house_112
      · skip
        refine lv_tableIn (tgt := 113) hx hb dX4_house_14 (by decide) (by decide) rfl (by decide) ?_
        refine lv_aload_n hx hb dX4_house_113 rfl (lv_at hl 0 rfl) ?_
        refine nv_get F hW (by omega) m0 rfl iX4 1 (by decide) tw_149 rfl dX4_house_114 ?_
        refine lv_iload_n hx hb dX4_house_117 rfl (lv_at hl 1 rfl) ?_
        refine cl_ip (cl_run (rest := []) F hW e_X4_90 (c_loadOf hI l h3b hL hk j (by omega)) ⟨Nat.le_of_ble_eq_true rfl, Nat.le_of_ble_eq_true rfl⟩ (by omega) o3 rfl rfl rfl hl (Nat.le_of_ble_eq_true rfl) dX4_house_118 ⟨Nat.zero_le _, Nat.zero_le _⟩) hW (fun H locs hW => ?_)
        exact rt_ie F hr hlk hW (by unfold r_house; rw [inR_j hj (by omega), if_pos rfl, if_pos hin8, nI_clamp (by omega), nI_clamp (by omega)]; first | rfl | (show _ = (if lst (AL S) j = true then nI 1 else nI 0); rw [‹lst (AL S) j = _›]; rfl)) ⟨hM, off_rf⟩ dX4_house_121
      · skip
        refine lv_tableIn (tgt := 122) hx hb dX4_house_14 (by decide) (by decide) rfl (by decide) ?_
        refine lv_aload_n hx hb dX4_house_122 rfl (lv_at hl 0 rfl) ?_
        refine nv_get F hW (by omega) m0 rfl iX4 1 (by decide) tw_149 rfl dX4_house_123 ?_
        refine lv_iload_n hx hb dX4_house_126 rfl (lv_at hl 1 rfl) ?_
        refine cl_ip (cl_run (rest := []) F hW e_X4_93 (c_givesOf hI l h3b hL hk (by omega) j (by omega)) ⟨Nat.le_of_ble_eq_true rfl, Nat.le_of_ble_eq_true rfl⟩ (by omega) o3 rfl rfl rfl hl (Nat.le_of_ble_eq_true rfl) dX4_house_127 ⟨Nat.zero_le _, Nat.zero_le _⟩) hW (fun H locs hW => ?_)
        exact rt_ie F hr hlk hW (by unfold r_house; rw [inR_j hj (by omega), if_pos rfl, if_pos hin8, nI_clamp (by omega), nI_clamp (by omega)]; first | rfl | (show _ = (if lst (AL S) j = true then nI 1 else nI 0); rw [‹lst (AL S) j = _›]; rfl)) ⟨hM, off_rf⟩ dX4_house_130
      · skip
        refine lv_tableIn (tgt := 131) hx hb dX4_house_14 (by decide) (by decide) rfl (by decide) ?_
        refine lv_aload_n hx hb dX4_house_131 rfl (lv_at hl 0 rfl) ?_
        refine nv_get F hW (by omega) m0 rfl iX4 1 (by decide) tw_149 rfl dX4_house_132 ?_
        refine lv_iload_n hx hb dX4_house_135 rfl (lv_at hl 1 rfl) ?_
        refine cl_ip (cl_run (rest := []) F hW e_X4_96 (c_groundOf hI l h3b hL hk (by omega) j (by omega)) ⟨Nat.le_of_ble_eq_true rfl, Nat.le_of_ble_eq_true rfl⟩ (by omega) o3 rfl rfl rfl hl (Nat.le_of_ble_eq_true rfl) dX4_house_136 ⟨Nat.zero_le _, Nat.zero_le _⟩) hW (fun H locs hW => ?_)
        exact rt_ie F hr hlk hW (by unfold r_house; rw [inR_j hj (by omega), if_pos rfl, if_pos hin8, nI_clamp (by omega), nI_clamp (by omega)]; first | rfl | (show _ = (if lst (AL S) j = true then nI 1 else nI 0); rw [‹lst (AL S) j = _›]; rfl)) ⟨hM, off_rf⟩ dX4_house_139
    · skip
      have hout : w.toInt < 0 ∨ 7 < w.toInt := by
        rcases Int.lt_or_le w.toInt 0 with q | q
        · exact Or.inl q
        · exact Or.inr (Int.not_le.mp (fun z => hin8 (decide_eq_true ⟨q, by omega⟩)))
      refine lv_tableOut (tgt := 140) hx hb dX4_house_14 hout (by decide) ?_
      refine lv_bipush (v := (-2)) hx hb dX4_house_140 (by decide) ?_
      exact rt_ie F hr hlk hW (by unfold r_house; rw [inR_j hj (by omega), if_pos rfl, if_neg hin8]) ⟨hM, off_rf⟩ dX4_house_142
  · skip
    refine lv_iconst (v := (-1)) hx hb dX4_house_11 (by decide) ?_
    exact rt_ie F hr hlk hW (by unfold r_house; rw [‹inR h (Ln (AL S)) = false›]; rfl) ⟨hM, off_rf⟩ dX4_house_12

set_option maxHeartbeats 4000000 in
set_option maxRecDepth 100000 in
theorem k_hour {cx : CX} (hI : xI cx) (l : Launch) {μ : ME} {S : AS} {B : Nat} (hN : 136 ≤ xN cx) (hM : mainR cx μ S) (hA : aok S B) (hB : B < 800000) : MT cx l yX4_hour cX4_hour 1 (some .int) 3 115 [.ref (xa cx 0)] μ (Ei cx (nI (pop (hF (AL S)))) (fun μ1 => mainR cx μ1 (uL S (hour (AL S)) (pushP (AP S) (AL S)) (min (Az S + 1) 14)) ∧ off 0 136 μ μ1)) := by
  refine mt_of hI (by decide) (Nat.le_of_ble_eq_true rfl) ?_
  intro p e s m below meth c ls F hr hlk hW hl
  have hx := F.1.1
  have hb := F.1.2.1
  have hts := F.1.2.2.2.2
  obtain ⟨m0, hT, hL, ⟨LT, hLT⟩, hPa, hSe, hSl⟩ := id hM
  have hk := hA.2.1
  have hn6 := hk.1
  have h3b : 3 + 7 ≤ xN cx := by omega
  have h10b : 10 + 7 ≤ xN cx := by omega
  obtain ⟨_, _, _, _, _, _, o3, -⟩ := id hL
  obtain ⟨_, _, _, _, _, _, o10, -⟩ := id hLT
  obtain ⟨_, o1, -⟩ := id hT
  obtain ⟨_, _, o17, -⟩ := id hPa
  obtain ⟨_, _, _, o117, -⟩ := id hSe
  obtain ⟨⟨gs, o121, hgs⟩, hsl2, hsl3⟩ := id hSl
  have hl : lv_has ls 1 [(0, .ref (xa cx 0))] := hl
  refine lv_aload_n hx hb dX4_hour_0 rfl (lv_at hl 0 rfl) ?_
  refine nv_get F hW (by omega) m0 rfl iX4 3 (by decide) tw_151 rfl dX4_hour_1 ?_
  refine lv_aload_n hx hb dX4_hour_4 rfl (lv_at hl 0 rfl) ?_
  refine nv_get F hW (by omega) m0 rfl iX4 1 (by decide) tw_149 rfl dX4_hour_5 ?_
  refine cl_v (cl_run (rest := []) F hW e_X4_99 (c_remember hI l (by omega) hPa h3b (by omega) hL hk.1) ⟨Nat.le_of_ble_eq_true rfl, Nat.le_of_ble_eq_true rfl⟩ (by omega) o17 rfl rfl rfl hl (Nat.le_of_ble_eq_true rfl) dX4_hour_8 ⟨Nat.zero_le _, Nat.zero_le _⟩) hW (fun μ1 H locs q_1 hW => ?_)
  obtain ⟨hP_1, ho_1⟩ := q_1
  have o0_1 := (ho_1 0 (by omega)).trans m0
  have o1_1 := (ho_1 1 (by omega)).trans o1
  have o3_1 := (ho_1 3 (by omega)).trans o3
  have o10_1 := (ho_1 10 (by omega)).trans o10
  have o117_1 := (ho_1 117 (by omega)).trans o117
  have o121_1 := (ho_1 121 (by omega)).trans o121
  have hLx3_1 := laneR_off hL ho_1 (by omega)
  have hLx10_1 := laneR_off hLT ho_1 (by omega)
  obtain ⟨_, _, o17_1, -⟩ := id hP_1
  refine lv_aload_n hx hb dX4_hour_11 rfl (lv_at hl 0 rfl) ?_
  refine nv_get F hW (by omega) o0_1 rfl iX4 1 (by decide) tw_149 rfl dX4_hour_12 ?_
  refine cl_ie (cl_run (rest := []) F hW e_X4_103 (c_passHour hI l h3b hLx3_1 hk (by omega)) ⟨Nat.le_of_ble_eq_true rfl, Nat.le_of_ble_eq_true rfl⟩ (by omega) o3_1 rfl rfl rfl hl (Nat.le_of_ble_eq_true rfl) dX4_hour_15 ⟨Nat.zero_le _, Nat.zero_le _⟩) hW (fun μ2 H locs q_2 hW => ?_)
  obtain ⟨hL_2, ho_2⟩ := q_2
  obtain ⟨_, _, _, _, _, _, o3_2, -⟩ := id hL_2
  have hk_2 := lok_hour hk
  have o0_2 := (ho_2 0 (by omega)).trans o0_1
  have o1_2 := (ho_2 1 (by omega)).trans o1_1
  have o10_2 := (ho_2 10 (by omega)).trans o10_1
  have o117_2 := (ho_2 117 (by omega)).trans o117_1
  have o121_2 := (ho_2 121 (by omega)).trans o121_1
  have o17_2 := (ho_2 17 (by omega)).trans o17_1
  have hLx10_2 := laneR_off hLx10_1 ho_2 (by omega)
  exact rt_ie F hr hlk hW rfl ⟨⟨o0_2, (textR_off (textR_off hT ho_1 (by omega)) ho_2 (by omega)), hL_2, ⟨_, hLx10_2⟩, (pastR_off hP_1 ho_2 (by omega)), (seenR_off (seenR_off hSe ho_1 (by omega)) ho_2 (by omega)), (slotR_off (slotR_off hSl ho_1 (by omega)) ho_2 (by omega))⟩, (fun z hz => by rw [ho_2 z (by omega)]; rw [ho_1 z (by omega)])⟩ dX4_hour_18

def r_bring (S : AS) (h v : Int32) : Int32 := if inR h (Ln (AL S)) then (if carI v then (if canA (AL S) h.toNatClampNeg v.toNatClampNeg then nI (Ls (AL S) h.toNatClampNeg + v.toNatClampNeg) else -4) else -2) else -1
def s_bring (S : AS) (h v : Int32) : AS := if inR h (Ln (AL S)) && carI v && canA (AL S) h.toNatClampNeg v.toNatClampNeg then uL S (addS (AL S) h.toNatClampNeg v.toNatClampNeg) (pushP (AP S) (AL S)) (min (Az S + 1) 14) else S

set_option maxHeartbeats 4000000 in
set_option maxRecDepth 100000 in
theorem k_bring {cx : CX} (hI : xI cx) (l : Launch) {μ : ME} {S : AS} {B : Nat} (hN : 136 ≤ xN cx) (hM : mainR cx μ S) (hA : aok S B) (hB : B < 800000) (h v : Int32) : MT cx l yX4_bring cX4_bring 3 (some .int) 3 114 [.ref (xa cx 0), .int h, .int v] μ (Ei cx (r_bring S h v) (fun μ1 => mainR cx μ1 (s_bring S h v) ∧ off 0 136 μ μ1)) := by
  refine mt_of hI (by decide) (Nat.le_of_ble_eq_true rfl) ?_
  intro p e s m below meth c ls F hr hlk hW hl
  have hx := F.1.1
  have hb := F.1.2.1
  have hts := F.1.2.2.2.2
  obtain ⟨m0, hT, hL, ⟨LT, hLT⟩, hPa, hSe, hSl⟩ := id hM
  have hk := hA.2.1
  have hn6 := hk.1
  have h3b : 3 + 7 ≤ xN cx := by omega
  have h10b : 10 + 7 ≤ xN cx := by omega
  obtain ⟨_, _, _, _, _, _, o3, -⟩ := id hL
  obtain ⟨_, _, _, _, _, _, o10, -⟩ := id hLT
  obtain ⟨_, o1, -⟩ := id hT
  obtain ⟨_, _, o17, -⟩ := id hPa
  obtain ⟨_, _, _, o117, -⟩ := id hSe
  obtain ⟨⟨gs, o121, hgs⟩, hsl2, hsl3⟩ := id hSl
  have hl : lv_has ls 3 [(0, .ref (xa cx 0)), (1, .int h), (2, .int v)] := hl
  refine lv_aload_n hx hb dX4_bring_0 rfl (lv_at hl 0 rfl) ?_
  refine nv_get F hW (by omega) m0 rfl iX4 1 (by decide) tw_149 rfl dX4_bring_1 ?_
  refine lv_iload_n hx hb dX4_bring_4 rfl (lv_at hl 1 rfl) ?_
  refine cl_ip (cl_run (rest := []) F hW e_X4_71 (c_has hI l h3b hL hk h) ⟨Nat.le_of_ble_eq_true rfl, Nat.le_of_ble_eq_true rfl⟩ (by omega) o3 rfl rfl rfl hl (Nat.le_of_ble_eq_true rfl) dX4_bring_5 ⟨Nat.zero_le _, Nat.zero_le _⟩) hW (fun H locs hW => ?_)
  refine nv_bne (tgt := 13) F dX4_bring_8 (by decide) (fun c_1 => ?_) (fun c_1 => ?_)
  · skip
    obtain ⟨j, hj, rfl⟩ := inR_of c_1 (by omega)
    refine lv_iload_n hx hb dX4_bring_13 rfl (lv_at hl 2 rfl) ?_
    refine cl_ip (cl_runS (rest := []) F hW e_X4_106 (c_isCarried hI l v) ⟨Nat.le_of_ble_eq_true rfl, Nat.le_of_ble_eq_true rfl⟩ rfl rfl hl (Nat.le_of_ble_eq_true rfl) dX4_bring_14 ⟨Nat.zero_le _, Nat.zero_le _⟩) hW (fun H locs hW => ?_)
    refine nv_bne (tgt := 23) F dX4_bring_17 (by decide) (fun c_2 => ?_) (fun c_2 => ?_)
    · skip
      obtain ⟨u, hu1, hu9, rfl⟩ := carI_of c_2
      refine lv_aload_n hx hb dX4_bring_23 rfl (lv_at hl 0 rfl) ?_
      refine nv_get F hW (by omega) m0 rfl iX4 1 (by decide) tw_149 rfl dX4_bring_24 ?_
      refine lv_iload_n hx hb dX4_bring_27 rfl (lv_at hl 1 rfl) ?_
      refine lv_iload_n hx hb dX4_bring_28 rfl (lv_at hl 2 rfl) ?_
      refine cl_ip (cl_run (rest := []) F hW e_X4_109 (c_canAdd hI l h3b hL hk j u (by omega) (by omega)) ⟨Nat.le_of_ble_eq_true rfl, Nat.le_of_ble_eq_true rfl⟩ (by omega) o3 rfl rfl rfl hl (Nat.le_of_ble_eq_true rfl) dX4_bring_29 ⟨Nat.zero_le _, Nat.zero_le _⟩) hW (fun H locs hW => ?_)
      refine nv_bne (tgt := 38) F dX4_bring_32 (by decide) (fun c_3 => ?_) (fun c_3 => ?_)
      · skip
        have hcan : canA (AL S) j u = true := c_3
        refine lv_aload_n hx hb dX4_bring_38 rfl (lv_at hl 0 rfl) ?_
        refine nv_get F hW (by omega) m0 rfl iX4 3 (by decide) tw_151 rfl dX4_bring_39 ?_
        refine lv_aload_n hx hb dX4_bring_42 rfl (lv_at hl 0 rfl) ?_
        refine nv_get F hW (by omega) m0 rfl iX4 1 (by decide) tw_149 rfl dX4_bring_43 ?_
        refine cl_v (cl_run (rest := []) F hW e_X4_99 (c_remember hI l (by omega) hPa h3b (by omega) hL hk.1) ⟨Nat.le_of_ble_eq_true rfl, Nat.le_of_ble_eq_true rfl⟩ (by omega) o17 rfl rfl rfl hl (Nat.le_of_ble_eq_true rfl) dX4_bring_46 ⟨Nat.zero_le _, Nat.zero_le _⟩) hW (fun μ4 H locs q_4 hW => ?_)
        obtain ⟨hP_4, ho_4⟩ := q_4
        have o0_4 := (ho_4 0 (by omega)).trans m0
        have o1_4 := (ho_4 1 (by omega)).trans o1
        have o3_4 := (ho_4 3 (by omega)).trans o3
        have o10_4 := (ho_4 10 (by omega)).trans o10
        have o117_4 := (ho_4 117 (by omega)).trans o117
        have o121_4 := (ho_4 121 (by omega)).trans o121
        have hLx3_4 := laneR_off hL ho_4 (by omega)
        have hLx10_4 := laneR_off hLT ho_4 (by omega)
        obtain ⟨_, _, o17_4, -⟩ := id hP_4
        refine lv_aload_n hx hb dX4_bring_49 rfl (lv_at hl 0 rfl) ?_
        refine nv_get F hW (by omega) o0_4 rfl iX4 1 (by decide) tw_149 rfl dX4_bring_50 ?_
        refine lv_iload_n hx hb dX4_bring_53 rfl (lv_at hl 1 rfl) ?_
        refine lv_iload_n hx hb dX4_bring_54 rfl (lv_at hl 2 rfl) ?_
        refine cl_ie (cl_run (rest := []) F hW e_X4_113 (c_addStones hI l h3b hLx3_4 hk j u (by omega) (by omega)) ⟨Nat.le_of_ble_eq_true rfl, Nat.le_of_ble_eq_true rfl⟩ (by omega) o3_4 rfl rfl rfl hl (Nat.le_of_ble_eq_true rfl) dX4_bring_55 ⟨Nat.zero_le _, Nat.zero_le _⟩) hW (fun μ5 H locs q_5 hW => ?_)
        obtain ⟨hL_5, ho_5⟩ := q_5
        obtain ⟨_, _, _, _, _, _, o3_5, -⟩ := id hL_5
        have hk_5 := lok_addS hk j u
        have o0_5 := (ho_5 0 (by omega)).trans o0_4
        have o1_5 := (ho_5 1 (by omega)).trans o1_4
        have o10_5 := (ho_5 10 (by omega)).trans o10_4
        have o117_5 := (ho_5 117 (by omega)).trans o117_4
        have o121_5 := (ho_5 121 (by omega)).trans o121_4
        have o17_5 := (ho_5 17 (by omega)).trans o17_4
        have hLx10_5 := laneR_off hLx10_4 ho_5 (by omega)
        refine lv_pop hx hb dX4_bring_58 rfl ?_
        refine lv_aload_n hx hb dX4_bring_59 rfl (lv_at hl 0 rfl) ?_
        refine nv_get F hW (by omega) o0_5 rfl iX4 1 (by decide) tw_149 rfl dX4_bring_60 ?_
        refine lv_iload_n hx hb dX4_bring_63 rfl (lv_at hl 1 rfl) ?_
        refine cl_ip (cl_run (rest := []) F hW e_X4_78 (c_stonesOf hI l h3b hL_5 hk_5 j (by show j < Ln (addS (AL S) j u); unfold addS; split <;> exact hj)) ⟨Nat.le_of_ble_eq_true rfl, Nat.le_of_ble_eq_true rfl⟩ (by omega) o3_5 rfl rfl rfl hl (Nat.le_of_ble_eq_true rfl) dX4_bring_64 ⟨Nat.zero_le _, Nat.zero_le _⟩) hW (fun H locs hW => ?_)
        exact rt_ie F hr hlk hW (by unfold r_bring; rw [inR_j hj (by omega), if_pos rfl, if_pos (by rw [carI_nI (by omega)]; exact decide_eq_true ⟨hu1, hu9⟩), nI_clamp (by omega), nI_clamp (by omega), hcan]; show _ = nI _; unfold addS; rw [if_pos hcan]; show nI (va_up _ _ _ _) = _; rw [va_up_self]) ⟨by unfold s_bring; rw [inR_j hj (by omega), carI_nI (by omega), decide_eq_true (show 1 ≤ u ∧ u ≤ 9 from ⟨hu1, hu9⟩), nI_clamp (by omega), nI_clamp (by omega), hcan]; exact ⟨o0_5, (textR_off (textR_off hT ho_4 (by omega)) ho_5 (by omega)), hL_5, ⟨_, hLx10_5⟩, (pastR_off hP_4 ho_5 (by omega)), (seenR_off (seenR_off hSe ho_4 (by omega)) ho_5 (by omega)), (slotR_off (slotR_off hSl ho_4 (by omega)) ho_5 (by omega))⟩, (fun z hz => by rw [ho_5 z (by omega)]; rw [ho_4 z (by omega)])⟩ dX4_bring_67
      · skip
        have hcan : canA (AL S) j u = false := c_3
        refine lv_bipush (v := (-4)) hx hb dX4_bring_35 (by decide) ?_
        exact rt_ie F hr hlk hW (by unfold r_bring; rw [inR_j hj (by omega), if_pos rfl, if_pos (by rw [carI_nI (by omega)]; exact decide_eq_true ⟨hu1, hu9⟩), nI_clamp (by omega), nI_clamp (by omega), hcan]; rfl) ⟨by unfold s_bring; rw [inR_j hj (by omega), carI_nI (by omega), decide_eq_true (show 1 ≤ u ∧ u ≤ 9 from ⟨hu1, hu9⟩), nI_clamp (by omega), nI_clamp (by omega), hcan]; exact hM, off_rf⟩ dX4_bring_37
    · skip
      refine lv_bipush (v := (-2)) hx hb dX4_bring_20 (by decide) ?_
      exact rt_ie F hr hlk hW (by unfold r_bring; rw [inR_j hj (by omega), if_pos rfl, ‹carI v = false›]; rfl) ⟨by unfold s_bring; rw [‹carI v = false›, Bool.and_false]; exact hM, off_rf⟩ dX4_bring_22
  · skip
    refine lv_iconst (v := (-1)) hx hb dX4_bring_11 (by decide) ?_
    exact rt_ie F hr hlk hW (by unfold r_bring; rw [‹inR h (Ln (AL S)) = false›]; rfl) ⟨by unfold s_bring; rw [‹inR h (Ln (AL S)) = false›]; exact hM, off_rf⟩ dX4_bring_12

def r_take (S : AS) (h v : Int32) : Int32 := if inR h (Ln (AL S)) then (if carI v then (if canS (AL S) h.toNatClampNeg v.toNatClampNeg then nI (Ls (AL S) h.toNatClampNeg - v.toNatClampNeg) else -3) else -2) else -1
def s_take (S : AS) (h v : Int32) : AS := if inR h (Ln (AL S)) && carI v && canS (AL S) h.toNatClampNeg v.toNatClampNeg then uL S (subS (AL S) h.toNatClampNeg v.toNatClampNeg) (pushP (AP S) (AL S)) (min (Az S + 1) 14) else S

set_option maxHeartbeats 4000000 in
set_option maxRecDepth 100000 in
theorem k_take {cx : CX} (hI : xI cx) (l : Launch) {μ : ME} {S : AS} {B : Nat} (hN : 136 ≤ xN cx) (hM : mainR cx μ S) (hA : aok S B) (hB : B < 800000) (h v : Int32) : MT cx l yX4_take cX4_take 3 (some .int) 3 114 [.ref (xa cx 0), .int h, .int v] μ (Ei cx (r_take S h v) (fun μ1 => mainR cx μ1 (s_take S h v) ∧ off 0 136 μ μ1)) := by
  refine mt_of hI (by decide) (Nat.le_of_ble_eq_true rfl) ?_
  intro p e s m below meth c ls F hr hlk hW hl
  have hx := F.1.1
  have hb := F.1.2.1
  have hts := F.1.2.2.2.2
  obtain ⟨m0, hT, hL, ⟨LT, hLT⟩, hPa, hSe, hSl⟩ := id hM
  have hk := hA.2.1
  have hn6 := hk.1
  have h3b : 3 + 7 ≤ xN cx := by omega
  have h10b : 10 + 7 ≤ xN cx := by omega
  obtain ⟨_, _, _, _, _, _, o3, -⟩ := id hL
  obtain ⟨_, _, _, _, _, _, o10, -⟩ := id hLT
  obtain ⟨_, o1, -⟩ := id hT
  obtain ⟨_, _, o17, -⟩ := id hPa
  obtain ⟨_, _, _, o117, -⟩ := id hSe
  obtain ⟨⟨gs, o121, hgs⟩, hsl2, hsl3⟩ := id hSl
  have hl : lv_has ls 3 [(0, .ref (xa cx 0)), (1, .int h), (2, .int v)] := hl
  refine lv_aload_n hx hb dX4_take_0 rfl (lv_at hl 0 rfl) ?_
  refine nv_get F hW (by omega) m0 rfl iX4 1 (by decide) tw_149 rfl dX4_take_1 ?_
  refine lv_iload_n hx hb dX4_take_4 rfl (lv_at hl 1 rfl) ?_
  refine cl_ip (cl_run (rest := []) F hW e_X4_71 (c_has hI l h3b hL hk h) ⟨Nat.le_of_ble_eq_true rfl, Nat.le_of_ble_eq_true rfl⟩ (by omega) o3 rfl rfl rfl hl (Nat.le_of_ble_eq_true rfl) dX4_take_5 ⟨Nat.zero_le _, Nat.zero_le _⟩) hW (fun H locs hW => ?_)
  refine nv_bne (tgt := 13) F dX4_take_8 (by decide) (fun c_1 => ?_) (fun c_1 => ?_)
  · skip
    obtain ⟨j, hj, rfl⟩ := inR_of c_1 (by omega)
    refine lv_iload_n hx hb dX4_take_13 rfl (lv_at hl 2 rfl) ?_
    refine cl_ip (cl_runS (rest := []) F hW e_X4_106 (c_isCarried hI l v) ⟨Nat.le_of_ble_eq_true rfl, Nat.le_of_ble_eq_true rfl⟩ rfl rfl hl (Nat.le_of_ble_eq_true rfl) dX4_take_14 ⟨Nat.zero_le _, Nat.zero_le _⟩) hW (fun H locs hW => ?_)
    refine nv_bne (tgt := 23) F dX4_take_17 (by decide) (fun c_2 => ?_) (fun c_2 => ?_)
    · skip
      obtain ⟨u, hu1, hu9, rfl⟩ := carI_of c_2
      refine lv_aload_n hx hb dX4_take_23 rfl (lv_at hl 0 rfl) ?_
      refine nv_get F hW (by omega) m0 rfl iX4 1 (by decide) tw_149 rfl dX4_take_24 ?_
      refine lv_iload_n hx hb dX4_take_27 rfl (lv_at hl 1 rfl) ?_
      refine lv_iload_n hx hb dX4_take_28 rfl (lv_at hl 2 rfl) ?_
      refine cl_ip (cl_run (rest := []) F hW e_X4_116 (c_canRemove hI l h3b hL hk j u (by omega) (by omega)) ⟨Nat.le_of_ble_eq_true rfl, Nat.le_of_ble_eq_true rfl⟩ (by omega) o3 rfl rfl rfl hl (Nat.le_of_ble_eq_true rfl) dX4_take_29 ⟨Nat.zero_le _, Nat.zero_le _⟩) hW (fun H locs hW => ?_)
      refine nv_bne (tgt := 38) F dX4_take_32 (by decide) (fun c_3 => ?_) (fun c_3 => ?_)
      · skip
        have hcan : canS (AL S) j u = true := c_3
        refine lv_aload_n hx hb dX4_take_38 rfl (lv_at hl 0 rfl) ?_
        refine nv_get F hW (by omega) m0 rfl iX4 3 (by decide) tw_151 rfl dX4_take_39 ?_
        refine lv_aload_n hx hb dX4_take_42 rfl (lv_at hl 0 rfl) ?_
        refine nv_get F hW (by omega) m0 rfl iX4 1 (by decide) tw_149 rfl dX4_take_43 ?_
        refine cl_v (cl_run (rest := []) F hW e_X4_99 (c_remember hI l (by omega) hPa h3b (by omega) hL hk.1) ⟨Nat.le_of_ble_eq_true rfl, Nat.le_of_ble_eq_true rfl⟩ (by omega) o17 rfl rfl rfl hl (Nat.le_of_ble_eq_true rfl) dX4_take_46 ⟨Nat.zero_le _, Nat.zero_le _⟩) hW (fun μ4 H locs q_4 hW => ?_)
        obtain ⟨hP_4, ho_4⟩ := q_4
        have o0_4 := (ho_4 0 (by omega)).trans m0
        have o1_4 := (ho_4 1 (by omega)).trans o1
        have o3_4 := (ho_4 3 (by omega)).trans o3
        have o10_4 := (ho_4 10 (by omega)).trans o10
        have o117_4 := (ho_4 117 (by omega)).trans o117
        have o121_4 := (ho_4 121 (by omega)).trans o121
        have hLx3_4 := laneR_off hL ho_4 (by omega)
        have hLx10_4 := laneR_off hLT ho_4 (by omega)
        obtain ⟨_, _, o17_4, -⟩ := id hP_4
        refine lv_aload_n hx hb dX4_take_49 rfl (lv_at hl 0 rfl) ?_
        refine nv_get F hW (by omega) o0_4 rfl iX4 1 (by decide) tw_149 rfl dX4_take_50 ?_
        refine lv_iload_n hx hb dX4_take_53 rfl (lv_at hl 1 rfl) ?_
        refine lv_iload_n hx hb dX4_take_54 rfl (lv_at hl 2 rfl) ?_
        refine cl_ie (cl_run (rest := []) F hW e_X4_119 (c_removeStones hI l h3b hLx3_4 hk j u (by omega) (by omega)) ⟨Nat.le_of_ble_eq_true rfl, Nat.le_of_ble_eq_true rfl⟩ (by omega) o3_4 rfl rfl rfl hl (Nat.le_of_ble_eq_true rfl) dX4_take_55 ⟨Nat.zero_le _, Nat.zero_le _⟩) hW (fun μ5 H locs q_5 hW => ?_)
        obtain ⟨hL_5, ho_5⟩ := q_5
        obtain ⟨_, _, _, _, _, _, o3_5, -⟩ := id hL_5
        have hk_5 := lok_subS hk j u
        have o0_5 := (ho_5 0 (by omega)).trans o0_4
        have o1_5 := (ho_5 1 (by omega)).trans o1_4
        have o10_5 := (ho_5 10 (by omega)).trans o10_4
        have o117_5 := (ho_5 117 (by omega)).trans o117_4
        have o121_5 := (ho_5 121 (by omega)).trans o121_4
        have o17_5 := (ho_5 17 (by omega)).trans o17_4
        have hLx10_5 := laneR_off hLx10_4 ho_5 (by omega)
        refine lv_pop hx hb dX4_take_58 rfl ?_
        refine lv_aload_n hx hb dX4_take_59 rfl (lv_at hl 0 rfl) ?_
        refine nv_get F hW (by omega) o0_5 rfl iX4 1 (by decide) tw_149 rfl dX4_take_60 ?_
        refine lv_iload_n hx hb dX4_take_63 rfl (lv_at hl 1 rfl) ?_
        refine cl_ip (cl_run (rest := []) F hW e_X4_78 (c_stonesOf hI l h3b hL_5 hk_5 j (by show j < Ln (subS (AL S) j u); unfold subS; split <;> exact hj)) ⟨Nat.le_of_ble_eq_true rfl, Nat.le_of_ble_eq_true rfl⟩ (by omega) o3_5 rfl rfl rfl hl (Nat.le_of_ble_eq_true rfl) dX4_take_64 ⟨Nat.zero_le _, Nat.zero_le _⟩) hW (fun H locs hW => ?_)
        exact rt_ie F hr hlk hW (by unfold r_take; rw [inR_j hj (by omega), if_pos rfl, if_pos (by rw [carI_nI (by omega)]; exact decide_eq_true ⟨hu1, hu9⟩), nI_clamp (by omega), nI_clamp (by omega), hcan]; show _ = nI _; unfold subS; rw [if_pos hcan]; show nI (va_up _ _ _ _) = _; rw [va_up_self]) ⟨by unfold s_take; rw [inR_j hj (by omega), carI_nI (by omega), decide_eq_true (show 1 ≤ u ∧ u ≤ 9 from ⟨hu1, hu9⟩), nI_clamp (by omega), nI_clamp (by omega), hcan]; exact ⟨o0_5, (textR_off (textR_off hT ho_4 (by omega)) ho_5 (by omega)), hL_5, ⟨_, hLx10_5⟩, (pastR_off hP_4 ho_5 (by omega)), (seenR_off (seenR_off hSe ho_4 (by omega)) ho_5 (by omega)), (slotR_off (slotR_off hSl ho_4 (by omega)) ho_5 (by omega))⟩, (fun z hz => by rw [ho_5 z (by omega)]; rw [ho_4 z (by omega)])⟩ dX4_take_67
      · skip
        have hcan : canS (AL S) j u = false := c_3
        refine lv_bipush (v := (-3)) hx hb dX4_take_35 (by decide) ?_
        exact rt_ie F hr hlk hW (by unfold r_take; rw [inR_j hj (by omega), if_pos rfl, if_pos (by rw [carI_nI (by omega)]; exact decide_eq_true ⟨hu1, hu9⟩), nI_clamp (by omega), nI_clamp (by omega), hcan]; rfl) ⟨by unfold s_take; rw [inR_j hj (by omega), carI_nI (by omega), decide_eq_true (show 1 ≤ u ∧ u ≤ 9 from ⟨hu1, hu9⟩), nI_clamp (by omega), nI_clamp (by omega), hcan]; exact hM, off_rf⟩ dX4_take_37
    · skip
      refine lv_bipush (v := (-2)) hx hb dX4_take_20 (by decide) ?_
      exact rt_ie F hr hlk hW (by unfold r_take; rw [inR_j hj (by omega), if_pos rfl, ‹carI v = false›]; rfl) ⟨by unfold s_take; rw [‹carI v = false›, Bool.and_false]; exact hM, off_rf⟩ dX4_take_22
  · skip
    refine lv_iconst (v := (-1)) hx hb dX4_take_11 (by decide) ?_
    exact rt_ie F hr hlk hW (by unfold r_take; rw [‹inR h (Ln (AL S)) = false›]; rfl) ⟨by unfold s_take; rw [‹inR h (Ln (AL S)) = false›]; exact hM, off_rf⟩ dX4_take_12
