/-! sacks -/
def clm (L : LN) (one v other w : Nat) : Bool := calm 6 (subS (subS L one v) other w)
def mosT (L : LN) (h : Nat) : Nat := min 9 (Ls L h)
def f1F (L : LN) (h lim : Nat) : Nat → Nat → Nat
  | 0, _ => lim
  | d + 1, v => if v ≤ mosT L h ∧ v < lim then (if clm L h v h 0 then v else f1F L h lim d (v + 1)) else lim
def f2I (L : LN) (one other v : Nat) : Nat → Nat → Nat → Nat
  | 0, _, fw => fw
  | d + 1, w, fw => if w ≤ mosT L other ∧ v + w < fw then f2I L one other v d (w + 1) (if clm L one v other w then v + w else fw) else fw
def f2O (L : LN) (one other : Nat) : Nat → Nat → Nat → Nat
  | 0, _, fw => fw
  | d + 1, v, fw => if v ≤ mosT L one then f2O L one other d (v + 1) (f2I L one other v 9 1 fw) else fw
def f2R (L : LN) (one other lim : Nat) : Nat := if clm L one (mosT L one) other (mosT L other) then f2O L one other 9 1 lim else lim
def skI (L : LN) (one : Nat) : Nat → Nat → Nat × Int32 → Nat × Int32
  | 0, _, a => a
  | d + 1, o, a => skI L one d (o + 1) (if (if one = o then f1F L one a.1 9 1 else f2R L one o a.1) < a.1 then ((if one = o then f1F L one a.1 9 1 else f2R L one o a.1), nI (10 * one + o)) else a)
def skO (L : LN) : Nat → Nat → Nat × Int32 → Nat × Int32
  | 0, _, a => a
  | d + 1, one, a => skO L d (one + 1) (skI L one (Ln L - one) one a)
def r_sacks (S : AS) (w : Int32) : Int32 := if halI w then (if calm 6 (AL S) then nI 0 else (if w = nI 0 ∧ ¬ (skO (AL S) (Ln (AL S)) 0 (19, -9)).2 = -9 then nI (skO (AL S) (Ln (AL S)) 0 (19, -9)).1 else (skO (AL S) (Ln (AL S)) 0 (19, -9)).2)) else -2
theorem f1F_le (L : LN) (h lim : Nat) : ∀ d v, f1F L h lim d v ≤ lim := by
  intro d
  induction d with
  | zero => intro v; exact Nat.le_refl _
  | succ d ih =>
    intro v
    unfold f1F
    split
    · split
      · omega
      · exact ih _
    · exact Nat.le_refl _
theorem f2I_le (L : LN) (one other v : Nat) : ∀ d w fw, f2I L one other v d w fw ≤ fw := by
  intro d
  induction d with
  | zero => intro w fw; exact Nat.le_refl _
  | succ d ih =>
    intro w fw
    unfold f2I
    split
    · split
      · exact Nat.le_trans (ih _ _) (by omega)
      · exact ih _ _
    · exact Nat.le_refl _
theorem f2O_le (L : LN) (one other : Nat) : ∀ d v fw, f2O L one other d v fw ≤ fw := by
  intro d
  induction d with
  | zero => intro v fw; exact Nat.le_refl _
  | succ d ih =>
    intro v fw
    unfold f2O
    split
    · exact Nat.le_trans (ih _ _) (f2I_le _ _ _ _ _ _ _)
    · exact Nat.le_refl _
theorem f2R_le (L : LN) (one other lim : Nat) : f2R L one other lim ≤ lim := by
  unfold f2R
  split
  · exact f2O_le _ _ _ _ _ _
  · exact Nat.le_refl _
theorem mosT_le (L : LN) (h : Nat) : mosT L h ≤ 9 := Nat.min_le_left _ _
theorem min9 {a : Nat} (h : a < 2147483648) : (if nI a < nI 9 then nI a else nI 9) = nI (min 9 a) := by
  by_cases q : a < 9
  · rw [if_pos ((nI_ltI h (by decide)).mpr q)]
    congr 1
    omega
  · rw [if_neg (fun z => q ((nI_ltI h (by decide)).mp z))]
    congr 1
    omega

set_option maxHeartbeats 4000000 in
set_option maxRecDepth 100000 in
theorem c_mostTaken {cx : CX} (hI : xI cx) (l : Launch) {μ : ME} {S : AS} {B : Nat} (hN : 136 ≤ xN cx) (hM : mainR cx μ S) (hA : aok S B) (hB : B < 800000) (j : Nat) (hj : j < Ln (AL S)) : MT cx l yX4_mostTaken cX4_mostTaken 2 (some .int) 2 42 [.ref (xa cx 0), .int (nI j)] μ (Pi cx μ (nI (mosT (AL S) j))) := by
  refine mt_of hI (by decide) (Nat.le_of_ble_eq_true rfl) ?_
  intro p e s m below meth c ls F hr hlk hW hl
  have hx := F.1.1
  have hb := F.1.2.1
  have hts := F.1.2.2.2.2
  obtain ⟨m0, hT, hL, ⟨LT, hLT⟩, hPa, hSe, hSl⟩ := id hM
  have hk := hA.2.1
  have hn6 := hk.1
  have h3b : 3 + 7 ≤ xN cx := by omega
  have h10b : 10 + 7 ≤ xN cx := by omega
  obtain ⟨_, _, _, _, _, _, o3, -⟩ := id hL
  obtain ⟨_, _, _, _, _, _, o10, -⟩ := id hLT
  obtain ⟨_, o1, -⟩ := id hT
  obtain ⟨_, _, o17, -⟩ := id hPa
  obtain ⟨_, _, _, o117, -⟩ := id hSe
  obtain ⟨⟨gs, o121, hgs⟩, hsl2, hsl3⟩ := id hSl
  have hl : lv_has ls 2 [(0, .ref (xa cx 0)), (1, .int (nI j))] := hl
  refine lv_bipush (v := nI 9) hx hb dX4_mostTaken_0 (by decide) ?_
  refine lv_aload_n hx hb dX4_mostTaken_2 rfl (lv_at hl 0 rfl) ?_
  refine nv_get F hW (by omega) m0 rfl iX4 1 (by decide) tw_149 rfl dX4_mostTaken_3 ?_
  refine lv_iload_n hx hb dX4_mostTaken_6 rfl (lv_at hl 1 rfl) ?_
  refine cl_ip (cl_run (rest := [.int (nI 9)]) F hW e_X4_78 (c_stonesOf hI l h3b hL hk j (by omega)) ⟨Nat.le_of_ble_eq_true rfl, Nat.le_of_ble_eq_true rfl⟩ (by omega) o3 rfl rfl rfl hl (Nat.le_of_ble_eq_true rfl) dX4_mostTaken_7 ⟨Nat.zero_le _, Nat.zero_le _⟩) hW (fun H locs hW => ?_)
  refine va_mmin hx hb (F.1.2.2.1.trans hl.1.symm) F.1.2.2.2.1 (hts _ tw_474) (hts _ tw_217) (hts _ tw_50) (hts _ tw_218) (Nat.le_of_ble_eq_true rfl) (Nat.le_of_ble_eq_true rfl) (Nat.zero_le _) (Nat.zero_le _) dX4_mostTaken_10 ?_
  refine nv_top (y := ((nI (mosT (AL S) j)))) (min9 (by have := (hk.2.2.2.1 j hj).2.1; omega)) ?_
  exact rt_ip F hr hlk hW rfl rfl dX4_mostTaken_13

set_option maxHeartbeats 4000000 in
set_option maxRecDepth 100000 in
theorem c_isCalmWithout {cx : CX} (hI : xI cx) (l : Launch) {μ : ME} {S : AS} {B : Nat} (hN : 136 ≤ xN cx) (hM : mainR cx μ S) (hA : aok S B) (hB : B < 800000) (one v other w : Nat) (h1 : one < 100) (h2 : v < 100) (h3 : other < 100) (h4 : w < 100) : MT cx l yX4_isCalmWithout cX4_isCalmWithout 5 (some .boolean) 4 137 [.ref (xa cx 0), .int (nI one), .int (nI v), .int (nI other), .int (nI w)] μ (Ei cx (b2 (clm (AL S) one v other w)) (fun μ1 => (∃ L1, laneR cx μ1 10 L1) ∧ off 10 7 μ μ1)) := by
  refine mt_of hI (by decide) (Nat.le_of_ble_eq_true rfl) ?_
  intro p e s m below meth c ls F hr hlk hW hl
  have hx := F.1.1
  have hb := F.1.2.1
  have hts := F.1.2.2.2.2
  obtain ⟨m0, hT, hL, ⟨LT, hLT⟩, hPa, hSe, hSl⟩ := id hM
  have hk := hA.2.1
  have hn6 := hk.1
  have h3b : 3 + 7 ≤ xN cx := by omega
  have h10b : 10 + 7 ≤ xN cx := by omega
  obtain ⟨_, _, _, _, _, _, o3, -⟩ := id hL
  obtain ⟨_, _, _, _, _, _, o10, -⟩ := id hLT
  obtain ⟨_, o1, -⟩ := id hT
  obtain ⟨_, _, o17, -⟩ := id hPa
  obtain ⟨_, _, _, o117, -⟩ := id hSe
  obtain ⟨⟨gs, o121, hgs⟩, hsl2, hsl3⟩ := id hSl
  have hl : lv_has ls 5 [(0, .ref (xa cx 0)), (1, .int (nI one)), (2, .int (nI v)), (3, .int (nI other)), (4, .int (nI w))] := hl
  refine lv_aload_n hx hb dX4_isCalmWithout_0 rfl (lv_at hl 0 rfl) ?_
  refine nv_get F hW (by omega) m0 rfl iX4 2 (by decide) tw_150 rfl dX4_isCalmWithout_1 ?_
  refine lv_aload_n hx hb dX4_isCalmWithout_4 rfl (lv_at hl 0 rfl) ?_
  refine nv_get F hW (by omega) m0 rfl iX4 1 (by decide) tw_149 rfl dX4_isCalmWithout_5 ?_
  refine cl_v (cl_run (rest := []) F hW e_X4_138 (c_copyFrom hI l h10b h3b (by omega) hLT hL (hk).1) ⟨Nat.le_of_ble_eq_true rfl, Nat.le_of_ble_eq_true rfl⟩ (by omega) o10 rfl rfl rfl hl (Nat.le_of_ble_eq_true rfl) dX4_isCalmWithout_8 ⟨Nat.zero_le _, Nat.zero_le _⟩) hW (fun μ1 H locs q_1 hW => ?_)
  obtain ⟨hL_1, ho_1⟩ := q_1
  obtain ⟨_, _, _, _, _, _, o10_1, -⟩ := id hL_1
  have hk_1 := hk
  have o0_1 := (ho_1 0 (by omega)).trans m0
  have o1_1 := (ho_1 1 (by omega)).trans o1
  have o3_1 := (ho_1 3 (by omega)).trans o3
  have o17_1 := (ho_1 17 (by omega)).trans o17
  have o117_1 := (ho_1 117 (by omega)).trans o117
  have o121_1 := (ho_1 121 (by omega)).trans o121
  have hLx3_1 := laneR_off hL ho_1 (by omega)
  refine lv_aload_n hx hb dX4_isCalmWithout_11 rfl (lv_at hl 0 rfl) ?_
  refine nv_get F hW (by omega) o0_1 rfl iX4 2 (by decide) tw_150 rfl dX4_isCalmWithout_12 ?_
  refine lv_iload_n hx hb dX4_isCalmWithout_15 rfl (lv_at hl 1 rfl) ?_
  refine lv_iload_n hx hb dX4_isCalmWithout_16 rfl (lv_at hl 2 rfl) ?_
  refine cl_ie (cl_run (rest := []) F hW e_X4_119 (c_removeStones hI l h10b hL_1 hk_1 one v (by omega) (by omega)) ⟨Nat.le_of_ble_eq_true rfl, Nat.le_of_ble_eq_true rfl⟩ (by omega) o10_1 rfl rfl rfl hl (Nat.le_of_ble_eq_true rfl) dX4_isCalmWithout_17 ⟨Nat.zero_le _, Nat.zero_le _⟩) hW (fun μ2 H locs q_2 hW => ?_)
  obtain ⟨hL_2, ho_2⟩ := q_2
  obtain ⟨_, _, _, _, _, _, o10_2, -⟩ := id hL_2
  have hk_2 := lok_subS hk_1 one v
  have o0_2 := (ho_2 0 (by omega)).trans o0_1
  have o1_2 := (ho_2 1 (by omega)).trans o1_1
  have o3_2 := (ho_2 3 (by omega)).trans o3_1
  have o17_2 := (ho_2 17 (by omega)).trans o17_1
  have o117_2 := (ho_2 117 (by omega)).trans o117_1
  have o121_2 := (ho_2 121 (by omega)).trans o121_1
  have hLx3_2 := laneR_off hLx3_1 ho_2 (by omega)
  refine lv_pop hx hb dX4_isCalmWithout_20 rfl ?_
  refine lv_aload_n hx hb dX4_isCalmWithout_21 rfl (lv_at hl 0 rfl) ?_
  refine nv_get F hW (by omega) o0_2 rfl iX4 2 (by decide) tw_150 rfl dX4_isCalmWithout_22 ?_
  refine lv_iload_n hx hb dX4_isCalmWithout_25 rfl (lv_at hl 3 rfl) ?_
  refine lv_iload hx hb dX4_isCalmWithout_26 (lv_at hl 4 rfl) ?_
  refine cl_ie (cl_run (rest := []) F hW e_X4_119 (c_removeStones hI l h10b hL_2 hk_2 other w (by omega) (by omega)) ⟨Nat.le_of_ble_eq_true rfl, Nat.le_of_ble_eq_true rfl⟩ (by omega) o10_2 rfl rfl rfl hl (Nat.le_of_ble_eq_true rfl) dX4_isCalmWithout_28 ⟨Nat.zero_le _, Nat.zero_le _⟩) hW (fun μ3 H locs q_3 hW => ?_)
  obtain ⟨hL_3, ho_3⟩ := q_3
  obtain ⟨_, _, _, _, _, _, o10_3, -⟩ := id hL_3
  have hk_3 := lok_subS hk_2 other w
  have o0_3 := (ho_3 0 (by omega)).trans o0_2
  have o1_3 := (ho_3 1 (by omega)).trans o1_2
  have o3_3 := (ho_3 3 (by omega)).trans o3_2
  have o17_3 := (ho_3 17 (by omega)).trans o17_2
  have o117_3 := (ho_3 117 (by omega)).trans o117_2
  have o121_3 := (ho_3 121 (by omega)).trans o121_2
  have hLx3_3 := laneR_off hLx3_2 ho_3 (by omega)
  refine lv_pop hx hb dX4_isCalmWithout_31 rfl ?_
  refine lv_aload_n hx hb dX4_isCalmWithout_32 rfl (lv_at hl 0 rfl) ?_
  refine nv_get F hW (by omega) o0_3 rfl iX4 2 (by decide) tw_150 rfl dX4_isCalmWithout_33 ?_
  refine lv_bipush (v := nI 6) hx hb dX4_isCalmWithout_36 (by decide) ?_
  refine cl_ie (cl_run (rest := []) F hW e_X4_181 (c_staysCalm hI l h10b hL_3 hk_3 6 (by omega) (by omega)) ⟨Nat.le_of_ble_eq_true rfl, Nat.le_of_ble_eq_true rfl⟩ (by omega) o10_3 rfl rfl rfl hl (Nat.le_of_ble_eq_true rfl) dX4_isCalmWithout_38 ⟨Nat.zero_le _, Nat.zero_le _⟩) hW (fun μ4 H locs q_4 hW => ?_)
  obtain ⟨⟨L1_4, hL_4⟩, ho_4⟩ := q_4
  obtain ⟨_, _, _, _, _, _, o10_4, -⟩ := id hL_4
  have o0_4 := (ho_4 0 (by omega)).trans o0_3
  have o1_4 := (ho_4 1 (by omega)).trans o1_3
  have o3_4 := (ho_4 3 (by omega)).trans o3_3
  have o17_4 := (ho_4 17 (by omega)).trans o17_3
  have o117_4 := (ho_4 117 (by omega)).trans o117_3
  have o121_4 := (ho_4 121 (by omega)).trans o121_3
  have hLx3_4 := laneR_off hLx3_3 ho_4 (by omega)
  exact rt_ze F hr hlk hW rfl ⟨⟨_, hL_4⟩, (fun z hz => by rw [ho_4 z (by omega)]; rw [ho_3 z (by omega)]; rw [ho_2 z (by omega)]; rw [ho_1 z (by omega)])⟩ dX4_isCalmWithout_41

set_option maxHeartbeats 4000000 in
set_option maxRecDepth 100000 in
theorem c_fewestFromOne {cx : CX} (hI : xI cx) (l : Launch) {μ : ME} {S : AS} {B : Nat} (hN : 136 ≤ xN cx) (hM : mainR cx μ S) (hA : aok S B) (hB : B < 800000) (j lim : Nat) (hj : j < Ln (AL S)) (hlim : lim ≤ 19) : MT cx l yX4_fewestFromOne cX4_fewestFromOne 4 (some .int) 5 161 [.ref (xa cx 0), .int (nI j), .int (nI lim)] μ (Ei cx (nI (f1F (AL S) j lim 9 1)) (fun μ1 => (∃ L1, laneR cx μ1 10 L1) ∧ off 10 7 μ μ1)) := by
  refine mt_of hI (by decide) (Nat.le_of_ble_eq_true rfl) ?_
  intro p e s m below meth c ls F hr hlk hW hl
  have hx := F.1.1
  have hb := F.1.2.1
  have hts := F.1.2.2.2.2
  obtain ⟨m0, hT, hL, ⟨LT, hLT⟩, hPa, hSe, hSl⟩ := id hM
  have hk := hA.2.1
  have hn6 := hk.1
  have h3b : 3 + 7 ≤ xN cx := by omega
  have h10b : 10 + 7 ≤ xN cx := by omega
  obtain ⟨_, _, _, _, _, _, o3, -⟩ := id hL
  obtain ⟨_, _, _, _, _, _, o10, -⟩ := id hLT
  obtain ⟨_, o1, -⟩ := id hT
  obtain ⟨_, _, o17, -⟩ := id hPa
  obtain ⟨_, _, _, o117, -⟩ := id hSe
  obtain ⟨⟨gs, o121, hgs⟩, hsl2, hsl3⟩ := id hSl
  have hl : lv_has ls 4 [(0, .ref (xa cx 0)), (1, .int (nI j)), (2, .int (nI lim))] := hl
  refine lv_iconst (v := nI 1) hx hb dX4_fewestFromOne_0 (by decide) ?_
  refine lv_istore_n (lv' := [(3, .int (nI 1)), (0, .ref (xa cx 0)), (1, .int (nI j)), (2, .int (nI lim))]) hx hb dX4_fewestFromOne_1 rfl hl (by decide) rfl (fun ls hl => ?_)
  have LOOP : ∀ (d i : Nat) (LT1 : LN) (μ1 : ME) (H : Heap) (locs : List Loc) (ls : Array Slot), i + d = 10 → (laneR cx μ1 10 LT1) → (off 10 7 μ μ1) → (f1F (AL S) j lim 9 1 = f1F (AL S) j lim d i) → St cx s μ1 H locs → lv_has ls 4 [(0, .ref (xa cx 0)), (1, .int (nI j)), (2, .int (nI lim)), (3, .int (nI i))] → W p l e { frames := 5, cells := 0, slots := 0, locals := 161 } s m [.ref (xa cx 0), .int (nI j), .int (nI lim)].toArray below meth c H locs 0 0 (MQ below (Ei cx (nI (f1F (AL S) j lim 9 1)) (fun μ1 => (∃ L1, laneR cx μ1 10 L1) ∧ off 10 7 μ μ1)) [.ref (xa cx 0), .int (nI j), .int (nI lim)].toArray s 0 0 (xA cx)) (F0 m 2 ls []) := by
    intro d
    induction d with
    | zero =>
      intro i LT1 μ1 H locs ls hid hLi ho1 hf hW hl
      have p0 := (ho1 0 (by omega)).trans m0
      have p3 := (ho1 3 (by omega)).trans o3
      have p117 := (ho1 117 (by omega)).trans o117
      obtain ⟨_, _, _, _, _, _, p10, -⟩ := id hLi
      have hLx := laneR_off hL ho1 (by omega)
      refine lv_iload_n hx hb dX4_fewestFromOne_2 rfl (lv_at hl 3 rfl) ?_
      refine lv_aload_n hx hb dX4_fewestFromOne_3 rfl (lv_at hl 0 rfl) ?_
      refine lv_iload_n hx hb dX4_fewestFromOne_4 rfl (lv_at hl 1 rfl) ?_
      refine cl_ip (cl_run (rest := [.int (nI i)]) F hW e_X4_190 (c_mostTaken hI l hN (mainR_trial hM (fun z hz => by rw [ho1 z (by omega)]) ⟨_, hLi⟩) hA hB j (by omega)) ⟨Nat.le_of_ble_eq_true rfl, Nat.le_of_ble_eq_true rfl⟩ (by omega) p0 rfl rfl rfl hl (Nat.le_of_ble_eq_true rfl) dX4_fewestFromOne_5 ⟨Nat.zero_le _, Nat.zero_le _⟩) hW (fun H locs hW => ?_)
      refine nv_cgt (tgt := 35) F (by omega) (by have := mosT_le (AL S) j; omega) dX4_fewestFromOne_8 (by decide) (fun c_1 => ?_) (fun c_1 => ?_)
      · skip
        refine lv_iload_n hx hb dX4_fewestFromOne_35 rfl (lv_at hl 2 rfl) ?_
        exact rt_ie F hr hlk hW (by rw [hf]; rfl) ⟨⟨_, hLi⟩, (fun z hz => by rw [ho1 z (by omega)])⟩ dX4_fewestFromOne_36
      · skip
        exact absurd c_1 (by have := mosT_le (AL S) j; omega)
    | succ d ih =>
      intro i LT1 μ1 H locs ls hid hLi ho1 hf hW hl
      have p0 := (ho1 0 (by omega)).trans m0
      have p3 := (ho1 3 (by omega)).trans o3
      have p117 := (ho1 117 (by omega)).trans o117
      obtain ⟨_, _, _, _, _, _, p10, -⟩ := id hLi
      have hLx := laneR_off hL ho1 (by omega)
      refine lv_iload_n hx hb dX4_fewestFromOne_2 rfl (lv_at hl 3 rfl) ?_
      refine lv_aload_n hx hb dX4_fewestFromOne_3 rfl (lv_at hl 0 rfl) ?_
      refine lv_iload_n hx hb dX4_fewestFromOne_4 rfl (lv_at hl 1 rfl) ?_
      refine cl_ip (cl_run (rest := [.int (nI i)]) F hW e_X4_190 (c_mostTaken hI l hN (mainR_trial hM (fun z hz => by rw [ho1 z (by omega)]) ⟨_, hLi⟩) hA hB j (by omega)) ⟨Nat.le_of_ble_eq_true rfl, Nat.le_of_ble_eq_true rfl⟩ (by omega) p0 rfl rfl rfl hl (Nat.le_of_ble_eq_true rfl) dX4_fewestFromOne_5 ⟨Nat.zero_le _, Nat.zero_le _⟩) hW (fun H locs hW => ?_)
      refine nv_cgt (tgt := 35) F (by omega) (by have := mosT_le (AL S) j; omega) dX4_fewestFromOne_8 (by decide) (fun c_2 => ?_) (fun c_2 => ?_)
      · skip
        refine lv_iload_n hx hb dX4_fewestFromOne_35 rfl (lv_at hl 2 rfl) ?_
        exact rt_ie F hr hlk hW (by rw [hf]; show _ = nI (if i ≤ mosT (AL S) j ∧ i < lim then _ else _); rw [if_neg (by omega)]) ⟨⟨_, hLi⟩, (fun z hz => by rw [ho1 z (by omega)])⟩ dX4_fewestFromOne_36
      · skip
        refine lv_iload_n hx hb dX4_fewestFromOne_11 rfl (lv_at hl 3 rfl) ?_
        refine lv_iload_n hx hb dX4_fewestFromOne_12 rfl (lv_at hl 2 rfl) ?_
        refine nv_cge (tgt := 35) F (by omega) (by omega) dX4_fewestFromOne_13 (by decide) (fun c_3 => ?_) (fun c_3 => ?_)
        · skip
          refine lv_iload_n hx hb dX4_fewestFromOne_35 rfl (lv_at hl 2 rfl) ?_
          exact rt_ie F hr hlk hW (by rw [hf]; show _ = nI (if i ≤ mosT (AL S) j ∧ i < lim then _ else _); rw [if_neg (by omega)]) ⟨⟨_, hLi⟩, (fun z hz => by rw [ho1 z (by omega)])⟩ dX4_fewestFromOne_36
        · skip
          refine lv_aload_n hx hb dX4_fewestFromOne_16 rfl (lv_at hl 0 rfl) ?_
          refine lv_iload_n hx hb dX4_fewestFromOne_17 rfl (lv_at hl 1 rfl) ?_
          refine lv_iload_n hx hb dX4_fewestFromOne_18 rfl (lv_at hl 3 rfl) ?_
          refine lv_iload_n hx hb dX4_fewestFromOne_19 rfl (lv_at hl 1 rfl) ?_
          refine lv_iconst (v := nI 0) hx hb dX4_fewestFromOne_20 (by decide) ?_
          refine cl_ie (cl_run (rest := []) F hW e_X4_193 (c_isCalmWithout hI l hN (mainR_trial hM (fun z hz => by rw [ho1 z (by omega)]) ⟨_, hLi⟩) hA hB j i j 0 (by omega) (by omega) (by omega) (by omega)) ⟨Nat.le_of_ble_eq_true rfl, Nat.le_of_ble_eq_true rfl⟩ (by omega) p0 rfl rfl rfl hl (Nat.le_of_ble_eq_true rfl) dX4_fewestFromOne_21 ⟨Nat.zero_le _, Nat.zero_le _⟩) hW (fun μ4 H locs q_4 hW => ?_)
          obtain ⟨⟨L1_4, hL_4⟩, ho_4⟩ := q_4
          obtain ⟨_, _, _, _, _, _, o10_4, -⟩ := id hL_4
          have o0_4 := (ho_4 0 (by omega)).trans p0
          have o3_4 := (ho_4 3 (by omega)).trans p3
          have o117_4 := (ho_4 117 (by omega)).trans p117
          have hLx3_4 := laneR_off hLx ho_4 (by omega)
          refine nv_beq (tgt := 29) F dX4_fewestFromOne_24 (by decide) (fun c_5 => ?_) (fun c_5 => ?_)
          · skip
            refine lv_iinc (v := ((nI (i + 1)))) (lv' := [(3, .int (nI (i + 1))), (0, .ref (xa cx 0)), (1, .int (nI j)), (2, .int (nI lim))]) hx hb dX4_fewestFromOne_29 hl (k := 3) rfl (nI_add _ _) (by decide) rfl (fun ls hl => ?_)
            refine lv_goto (tgt := 2) hx hb dX4_fewestFromOne_32 (by decide) ?_
            exact ih (i + 1) _ μ4 _ _ _ (by omega) hL_4 (fun z hz => by rw [ho_4 z (by omega)]; rw [ho1 z (by omega)]) (by rw [hf]; show (if i ≤ mosT (AL S) j ∧ i < lim then _ else _) = _; rw [if_pos ⟨by omega, by omega⟩, if_neg (by rw [‹clm (AL S) j i j 0 = false›]; decide)]) hW (lv_sub hl [1, 2, 3, 0] rfl)
          · skip
            refine lv_iload_n hx hb dX4_fewestFromOne_27 rfl (lv_at hl 3 rfl) ?_
            exact rt_ie F hr hlk hW (by rw [hf]; show _ = nI (if i ≤ mosT (AL S) j ∧ i < lim then _ else _); rw [if_pos ⟨by omega, by omega⟩, if_pos (by assumption)]) ⟨⟨_, hL_4⟩, (fun z hz => by rw [ho_4 z (by omega)]; rw [ho1 z (by omega)])⟩ dX4_fewestFromOne_28
  exact LOOP 9 1 LT μ _ _ _ (by omega) hLT off_rf rfl hW (lv_sub hl [1, 2, 3, 0] rfl)

set_option maxHeartbeats 4000000 in
set_option maxRecDepth 100000 in
theorem c_fewestFromTwo {cx : CX} (hI : xI cx) (l : Launch) {μ : ME} {S : AS} {B : Nat} (hN : 136 ≤ xN cx) (hM : mainR cx μ S) (hA : aok S B) (hB : B < 800000) (j o lim : Nat) (hj : j < Ln (AL S)) (hoo : o < Ln (AL S)) (hlim : lim ≤ 19) : MT cx l yX4_fewestFromTwo cX4_fewestFromTwo 9 (some .int) 5 161 [.ref (xa cx 0), .int (nI j), .int (nI o), .int (nI lim)] μ (Ei cx (nI (f2R (AL S) j o lim)) (fun μ1 => (∃ L1, laneR cx μ1 10 L1) ∧ off 10 7 μ μ1)) := by
  refine mt_of hI (by decide) (Nat.le_of_ble_eq_true rfl) ?_
  intro p e s m below meth c ls F hr hlk hW hl
  have hx := F.1.1
  have hb := F.1.2.1
  have hts := F.1.2.2.2.2
  obtain ⟨m0, hT, hL, ⟨LT, hLT⟩, hPa, hSe, hSl⟩ := id hM
  have hk := hA.2.1
  have hn6 := hk.1
  have h3b : 3 + 7 ≤ xN cx := by omega
  have h10b : 10 + 7 ≤ xN cx := by omega
  obtain ⟨_, _, _, _, _, _, o3, -⟩ := id hL
  obtain ⟨_, _, _, _, _, _, o10, -⟩ := id hLT
  obtain ⟨_, o1, -⟩ := id hT
  obtain ⟨_, _, o17, -⟩ := id hPa
  obtain ⟨_, _, _, o117, -⟩ := id hSe
  obtain ⟨⟨gs, o121, hgs⟩, hsl2, hsl3⟩ := id hSl
  have hl : lv_has ls 9 [(0, .ref (xa cx 0)), (1, .int (nI j)), (2, .int (nI o)), (3, .int (nI lim))] := hl
  refine lv_aload_n hx hb dX4_fewestFromTwo_0 rfl (lv_at hl 0 rfl) ?_
  refine lv_iload_n hx hb dX4_fewestFromTwo_1 rfl (lv_at hl 1 rfl) ?_
  refine cl_ip (cl_run (rest := []) F hW e_X4_190 (c_mostTaken hI l hN (mainR_trial hM off_rf ⟨_, hLT⟩) hA hB j (by omega)) ⟨Nat.le_of_ble_eq_true rfl, Nat.le_of_ble_eq_true rfl⟩ (by omega) m0 rfl rfl rfl hl (Nat.le_of_ble_eq_true rfl) dX4_fewestFromTwo_2 ⟨Nat.zero_le _, Nat.zero_le _⟩) hW (fun H locs hW => ?_)
  refine lv_istore (lv' := [(4, .int (nI (mosT (AL S) j))), (0, .ref (xa cx 0)), (1, .int (nI j)), (2, .int (nI o)), (3, .int (nI lim))]) hx hb dX4_fewestFromTwo_5 hl (by decide) rfl (fun ls hl => ?_)
  refine lv_aload_n hx hb dX4_fewestFromTwo_7 rfl (lv_at hl 1 rfl) ?_
  refine lv_iload_n hx hb dX4_fewestFromTwo_8 rfl (lv_at hl 3 rfl) ?_
  refine cl_ip (cl_run (rest := []) F hW e_X4_190 (c_mostTaken hI l hN (mainR_trial hM off_rf ⟨_, hLT⟩) hA hB o (by omega)) ⟨Nat.le_of_ble_eq_true rfl, Nat.le_of_ble_eq_true rfl⟩ (by omega) m0 rfl rfl rfl hl (Nat.le_of_ble_eq_true rfl) dX4_fewestFromTwo_9 ⟨Nat.zero_le _, Nat.zero_le _⟩) hW (fun H locs hW => ?_)
  refine lv_istore (lv' := [(5, .int (nI (mosT (AL S) o))), (4, .int (nI (mosT (AL S) j))), (0, .ref (xa cx 0)), (1, .int (nI j)), (2, .int (nI o)), (3, .int (nI lim))]) hx hb dX4_fewestFromTwo_12 hl (by decide) rfl (fun ls hl => ?_)
  refine lv_aload_n hx hb dX4_fewestFromTwo_14 rfl (lv_at hl 2 rfl) ?_
  refine lv_iload_n hx hb dX4_fewestFromTwo_15 rfl (lv_at hl 3 rfl) ?_
  refine lv_iload hx hb dX4_fewestFromTwo_16 (lv_at hl 1 rfl) ?_
  refine lv_iload_n hx hb dX4_fewestFromTwo_18 rfl (lv_at hl 4 rfl) ?_
  refine lv_iload hx hb dX4_fewestFromTwo_19 (lv_at hl 0 rfl) ?_
  refine cl_ie (cl_run (rest := []) F hW e_X4_193 (c_isCalmWithout hI l hN (mainR_trial hM off_rf ⟨_, hLT⟩) hA hB j (mosT (AL S) j) o (mosT (AL S) o) (by omega) (by have := mosT_le (AL S) j; omega) (by omega) (by have := mosT_le (AL S) o; omega)) ⟨Nat.le_of_ble_eq_true rfl, Nat.le_of_ble_eq_true rfl⟩ (by omega) m0 rfl rfl rfl hl (Nat.le_of_ble_eq_true rfl) dX4_fewestFromTwo_21 ⟨Nat.zero_le _, Nat.zero_le _⟩) hW (fun μ1 H locs q_1 hW => ?_)
  obtain ⟨⟨L1_1, hL_1⟩, ho_1⟩ := q_1
  obtain ⟨_, _, _, _, _, _, o10_1, -⟩ := id hL_1
  have o0_1 := (ho_1 0 (by omega)).trans m0
  have o1_1 := (ho_1 1 (by omega)).trans o1
  have o3_1 := (ho_1 3 (by omega)).trans o3
  have o17_1 := (ho_1 17 (by omega)).trans o17
  have o117_1 := (ho_1 117 (by omega)).trans o117
  have o121_1 := (ho_1 121 (by omega)).trans o121
  have hLx3_1 := laneR_off hL ho_1 (by omega)
  refine nv_bne (tgt := 29) F dX4_fewestFromTwo_24 (by decide) (fun c_2 => ?_) (fun c_2 => ?_)
  · skip
    have hcl := c_2
    refine lv_iload_n hx hb dX4_fewestFromTwo_29 rfl (lv_at hl 5 rfl) ?_
    refine lv_istore (lv' := [(6, .int (nI lim)), (5, .int (nI (mosT (AL S) o))), (4, .int (nI (mosT (AL S) j))), (0, .ref (xa cx 0)), (1, .int (nI j)), (2, .int (nI o)), (3, .int (nI lim))]) hx hb dX4_fewestFromTwo_30 hl (by decide) rfl (fun ls hl => ?_)
    refine lv_iconst (v := nI 1) hx hb dX4_fewestFromTwo_32 (by decide) ?_
    refine lv_istore (lv' := [(7, .int (nI 1)), (6, .int (nI lim)), (5, .int (nI (mosT (AL S) o))), (4, .int (nI (mosT (AL S) j))), (0, .ref (xa cx 0)), (1, .int (nI j)), (2, .int (nI o)), (3, .int (nI lim))]) hx hb dX4_fewestFromTwo_33 hl (by decide) rfl (fun ls hl => ?_)
    have LOOP35 : ∀ (d i : Nat) (LT1 : LN) (fw : Nat) (μ1 : ME) (H : Heap) (locs : List Loc) (ls : Array Slot), i + d = 10 → (laneR cx μ1 10 LT1) → (off 10 7 μ μ1) → (f2O (AL S) j o 9 1 lim = f2O (AL S) j o d i fw) → (fw ≤ 19) → St cx s μ1 H locs → lv_has ls 9 [(0, .ref (xa cx 0)), (1, .int (nI j)), (2, .int (nI o)), (3, .int (nI lim)), (4, .int (nI (mosT (AL S) j))), (5, .int (nI (mosT (AL S) o))), (6, .int (nI fw)), (7, .int (nI i))] → W p l e { frames := 5, cells := 0, slots := 0, locals := 161 } s m [.ref (xa cx 0), .int (nI j), .int (nI o), .int (nI lim)].toArray below meth c H locs 0 0 (MQ below (Ei cx (nI (f2R (AL S) j o lim)) (fun μ1 => (∃ L1, laneR cx μ1 10 L1) ∧ off 10 7 μ μ1)) [.ref (xa cx 0), .int (nI j), .int (nI o), .int (nI lim)].toArray s 0 0 (xA cx)) (F0 m 35 ls []) := by
      intro d
      induction d with
      | zero =>
        intro i LT1 fw μ1 H locs ls hid hLi ho1 hf hfw hW hl
        have p0 := (ho1 0 (by omega)).trans m0
        have p3 := (ho1 3 (by omega)).trans o3
        have p117 := (ho1 117 (by omega)).trans o117
        obtain ⟨_, _, _, _, _, _, p10, -⟩ := id hLi
        have hLx := laneR_off hL ho1 (by omega)
        refine lv_iload hx hb dX4_fewestFromTwo_35 (lv_at hl 7 rfl) ?_
        refine lv_iload hx hb dX4_fewestFromTwo_37 (lv_at hl 4 rfl) ?_
        refine nv_cgt (tgt := 94) F (by omega) (by have := mosT_le (AL S) j; omega) dX4_fewestFromTwo_39 (by decide) (fun c_3 => ?_) (fun c_3 => ?_)
        · skip
          refine lv_iload hx hb dX4_fewestFromTwo_94 (lv_at hl 6 rfl) ?_
          exact rt_ie F hr hlk hW (by unfold f2R; rw [if_pos hcl, hf]; rfl) ⟨⟨_, hLi⟩, (fun z hz => by rw [ho1 z (by omega)])⟩ dX4_fewestFromTwo_96
        · skip
          exact absurd c_3 (by have := mosT_le (AL S) j; omega)
      | succ d ih35 =>
        intro i LT1 fw μ1 H locs ls hid hLi ho1 hf hfw hW hl
        have p0 := (ho1 0 (by omega)).trans m0
        have p3 := (ho1 3 (by omega)).trans o3
        have p117 := (ho1 117 (by omega)).trans o117
        obtain ⟨_, _, _, _, _, _, p10, -⟩ := id hLi
        have hLx := laneR_off hL ho1 (by omega)
        refine lv_iload hx hb dX4_fewestFromTwo_35 (lv_at hl 7 rfl) ?_
        refine lv_iload hx hb dX4_fewestFromTwo_37 (lv_at hl 4 rfl) ?_
        refine nv_cgt (tgt := 94) F (by omega) (by have := mosT_le (AL S) j; omega) dX4_fewestFromTwo_39 (by decide) (fun c_4 => ?_) (fun c_4 => ?_)
        · skip
          refine lv_iload hx hb dX4_fewestFromTwo_94 (lv_at hl 6 rfl) ?_
          exact rt_ie F hr hlk hW (by unfold f2R; rw [if_pos hcl, hf]; show _ = nI (if i ≤ mosT (AL S) j then _ else _); rw [if_neg (by omega)]) ⟨⟨_, hLi⟩, (fun z hz => by rw [ho1 z (by omega)])⟩ dX4_fewestFromTwo_96
        · skip
          refine lv_iconst (v := nI 1) hx hb dX4_fewestFromTwo_42 (by decide) ?_
          refine lv_istore (lv' := [(8, .int (nI 1)), (0, .ref (xa cx 0)), (1, .int (nI j)), (2, .int (nI o)), (3, .int (nI lim)), (4, .int (nI (mosT (AL S) j))), (5, .int (nI (mosT (AL S) o))), (6, .int (nI fw)), (7, .int (nI i))]) hx hb dX4_fewestFromTwo_43 hl (by decide) rfl (fun ls hl => ?_)
          have LOOP45 : ∀ (d w : Nat) (LT1 : LN) (g : Nat) (μ1 : ME) (H : Heap) (locs : List Loc) (ls : Array Slot), w + d = 10 → (laneR cx μ1 10 LT1) → (off 10 7 μ μ1) → (f2I (AL S) j o i 9 1 fw = f2I (AL S) j o i d w g) → (g ≤ 19) → St cx s μ1 H locs → lv_has ls 9 [(0, .ref (xa cx 0)), (1, .int (nI j)), (2, .int (nI o)), (3, .int (nI lim)), (4, .int (nI (mosT (AL S) j))), (5, .int (nI (mosT (AL S) o))), (6, .int (nI g)), (7, .int (nI i)), (8, .int (nI w))] → W p l e { frames := 5, cells := 0, slots := 0, locals := 161 } s m [.ref (xa cx 0), .int (nI j), .int (nI o), .int (nI lim)].toArray below meth c H locs 0 0 (MQ below (Ei cx (nI (f2R (AL S) j o lim)) (fun μ1 => (∃ L1, laneR cx μ1 10 L1) ∧ off 10 7 μ μ1)) [.ref (xa cx 0), .int (nI j), .int (nI o), .int (nI lim)].toArray s 0 0 (xA cx)) (F0 m 45 ls []) := by
            intro d
            induction d with
            | zero =>
              intro w LT1 g μ1 H locs ls hid hLi ho1 hg2 hg hW hl
              have p0 := (ho1 0 (by omega)).trans m0
              have p3 := (ho1 3 (by omega)).trans o3
              have p117 := (ho1 117 (by omega)).trans o117
              obtain ⟨_, _, _, _, _, _, p10, -⟩ := id hLi
              have hLx := laneR_off hL ho1 (by omega)
              refine lv_iload hx hb dX4_fewestFromTwo_45 (lv_at hl 8 rfl) ?_
              refine lv_iload hx hb dX4_fewestFromTwo_47 (lv_at hl 5 rfl) ?_
              refine nv_cgt (tgt := 88) F (by omega) (by have := mosT_le (AL S) o; omega) dX4_fewestFromTwo_49 (by decide) (fun c_5 => ?_) (fun c_5 => ?_)
              · skip
                refine lv_iinc (v := ((nI (i + 1)))) (lv' := [(7, .int (nI (i + 1))), (0, .ref (xa cx 0)), (1, .int (nI j)), (2, .int (nI o)), (3, .int (nI lim)), (4, .int (nI (mosT (AL S) j))), (5, .int (nI (mosT (AL S) o))), (6, .int (nI g)), (8, .int (nI w))]) hx hb dX4_fewestFromTwo_88 hl (k := 7) rfl (nI_add _ _) (by decide) rfl (fun ls hl => ?_)
                refine lv_goto (tgt := 35) hx hb dX4_fewestFromTwo_91 (by decide) ?_
                have eI : f2I (AL S) j o i 9 1 fw = g := by rw [hg2]; rfl
                exact ih35 (i + 1) _ g μ1 _ _ _ (by omega) hLi (fun z hz => by rw [ho1 z (by omega)]) (by rw [hf]; show (if i ≤ mosT (AL S) j then _ else _) = _; rw [if_pos (by omega), eI]) (by omega) hW (lv_sub hl [1, 2, 3, 4, 5, 6, 7, 0] rfl)
              · skip
                exact absurd c_5 (by have := mosT_le (AL S) o; omega)
            | succ d ih45 =>
              intro w LT1 g μ1 H locs ls hid hLi ho1 hg2 hg hW hl
              have p0 := (ho1 0 (by omega)).trans m0
              have p3 := (ho1 3 (by omega)).trans o3
              have p117 := (ho1 117 (by omega)).trans o117
              obtain ⟨_, _, _, _, _, _, p10, -⟩ := id hLi
              have hLx := laneR_off hL ho1 (by omega)
              refine lv_iload hx hb dX4_fewestFromTwo_45 (lv_at hl 8 rfl) ?_
              refine lv_iload hx hb dX4_fewestFromTwo_47 (lv_at hl 5 rfl) ?_
              refine nv_cgt (tgt := 88) F (by omega) (by have := mosT_le (AL S) o; omega) dX4_fewestFromTwo_49 (by decide) (fun c_6 => ?_) (fun c_6 => ?_)
              · skip
                refine lv_iinc (v := ((nI (i + 1)))) (lv' := [(7, .int (nI (i + 1))), (0, .ref (xa cx 0)), (1, .int (nI j)), (2, .int (nI o)), (3, .int (nI lim)), (4, .int (nI (mosT (AL S) j))), (5, .int (nI (mosT (AL S) o))), (6, .int (nI g)), (8, .int (nI w))]) hx hb dX4_fewestFromTwo_88 hl (k := 7) rfl (nI_add _ _) (by decide) rfl (fun ls hl => ?_)
                refine lv_goto (tgt := 35) hx hb dX4_fewestFromTwo_91 (by decide) ?_
                have eI : f2I (AL S) j o i 9 1 fw = g := by rw [hg2]; show (if w ≤ mosT (AL S) o ∧ i + w < g then _ else _) = _; rw [if_neg (by omega)]
                exact ih35 (i + 1) _ g μ1 _ _ _ (by omega) hLi (fun z hz => by rw [ho1 z (by omega)]) (by rw [hf]; show (if i ≤ mosT (AL S) j then _ else _) = _; rw [if_pos (by omega), eI]) (by omega) hW (lv_sub hl [1, 2, 3, 4, 5, 6, 7, 0] rfl)
              · skip
                refine lv_iload hx hb dX4_fewestFromTwo_52 (lv_at hl 7 rfl) ?_
                refine lv_iload hx hb dX4_fewestFromTwo_54 (lv_at hl 8 rfl) ?_
                refine nv_add F dX4_fewestFromTwo_56 ?_
                refine lv_iload hx hb dX4_fewestFromTwo_57 (lv_at hl 6 rfl) ?_
                refine nv_cge (tgt := 88) F (by omega) (by omega) dX4_fewestFromTwo_59 (by decide) (fun c_7 => ?_) (fun c_7 => ?_)
                · skip
                  refine lv_iinc (v := ((nI (i + 1)))) (lv' := [(7, .int (nI (i + 1))), (0, .ref (xa cx 0)), (1, .int (nI j)), (2, .int (nI o)), (3, .int (nI lim)), (4, .int (nI (mosT (AL S) j))), (5, .int (nI (mosT (AL S) o))), (6, .int (nI g)), (8, .int (nI w))]) hx hb dX4_fewestFromTwo_88 hl (k := 7) rfl (nI_add _ _) (by decide) rfl (fun ls hl => ?_)
                  refine lv_goto (tgt := 35) hx hb dX4_fewestFromTwo_91 (by decide) ?_
                  have eI : f2I (AL S) j o i 9 1 fw = g := by rw [hg2]; show (if w ≤ mosT (AL S) o ∧ i + w < g then _ else _) = _; rw [if_neg (by omega)]
                  exact ih35 (i + 1) _ g μ1 _ _ _ (by omega) hLi (fun z hz => by rw [ho1 z (by omega)]) (by rw [hf]; show (if i ≤ mosT (AL S) j then _ else _) = _; rw [if_pos (by omega), eI]) (by omega) hW (lv_sub hl [1, 2, 3, 4, 5, 6, 7, 0] rfl)
                · skip
                  refine lv_aload_n hx hb dX4_fewestFromTwo_62 rfl (lv_at hl 0 rfl) ?_
                  refine lv_iload_n hx hb dX4_fewestFromTwo_63 rfl (lv_at hl 1 rfl) ?_
                  refine lv_iload hx hb dX4_fewestFromTwo_64 (lv_at hl 7 rfl) ?_
                  refine lv_iload_n hx hb dX4_fewestFromTwo_66 rfl (lv_at hl 2 rfl) ?_
                  refine lv_iload hx hb dX4_fewestFromTwo_67 (lv_at hl 8 rfl) ?_
                  refine cl_ie (cl_run (rest := []) F hW e_X4_193 (c_isCalmWithout hI l hN (mainR_trial hM (fun z hz => by rw [ho1 z (by omega)]) ⟨_, hLi⟩) hA hB j i o w (by omega) (by omega) (by omega) (by omega)) ⟨Nat.le_of_ble_eq_true rfl, Nat.le_of_ble_eq_true rfl⟩ (by omega) p0 rfl rfl rfl hl (Nat.le_of_ble_eq_true rfl) dX4_fewestFromTwo_69 ⟨Nat.zero_le _, Nat.zero_le _⟩) hW (fun μ8 H locs q_8 hW => ?_)
                  obtain ⟨⟨L1_8, hL_8⟩, ho_8⟩ := q_8
                  obtain ⟨_, _, _, _, _, _, o10_8, -⟩ := id hL_8
                  have o0_8 := (ho_8 0 (by omega)).trans p0
                  have o3_8 := (ho_8 3 (by omega)).trans p3
                  have o117_8 := (ho_8 117 (by omega)).trans p117
                  have hLx3_8 := laneR_off hLx ho_8 (by omega)
                  refine nv_beq (tgt := 82) F dX4_fewestFromTwo_72 (by decide) (fun c_9 => ?_) (fun c_9 => ?_)
                  · skip
                    refine lv_iinc (v := ((nI (w + 1)))) (lv' := [(8, .int (nI (w + 1))), (0, .ref (xa cx 0)), (1, .int (nI j)), (2, .int (nI o)), (3, .int (nI lim)), (4, .int (nI (mosT (AL S) j))), (5, .int (nI (mosT (AL S) o))), (6, .int (nI g)), (7, .int (nI i))]) hx hb dX4_fewestFromTwo_82 hl (k := 8) rfl (nI_add _ _) (by decide) rfl (fun ls hl => ?_)
                    refine lv_goto (tgt := 45) hx hb dX4_fewestFromTwo_85 (by decide) ?_
                    exact ih45 (w + 1) _ g μ8 _ _ _ (by omega) hL_8 (fun z hz => by rw [ho_8 z (by omega)]; rw [ho1 z (by omega)]) (by rw [hg2]; show (if w ≤ mosT (AL S) o ∧ i + w < g then f2I (AL S) j o i d (w + 1) (if clm (AL S) j i o w = true then i + w else g) else _) = _; rw [if_pos ⟨by omega, by omega⟩, ‹clm (AL S) j i o w = false›]; rfl) (by omega) hW (lv_sub hl [1, 2, 3, 4, 5, 6, 7, 8, 0] rfl)
                  · skip
                    refine lv_iload hx hb dX4_fewestFromTwo_75 (lv_at hl 7 rfl) ?_
                    refine lv_iload hx hb dX4_fewestFromTwo_77 (lv_at hl 8 rfl) ?_
                    refine nv_add F dX4_fewestFromTwo_79 ?_
                    refine lv_istore (lv' := [(6, .int (nI (i + w))), (0, .ref (xa cx 0)), (1, .int (nI j)), (2, .int (nI o)), (3, .int (nI lim)), (4, .int (nI (mosT (AL S) j))), (5, .int (nI (mosT (AL S) o))), (7, .int (nI i)), (8, .int (nI w))]) hx hb dX4_fewestFromTwo_80 hl (by decide) rfl (fun ls hl => ?_)
                    refine lv_iinc (v := ((nI (w + 1)))) (lv' := [(8, .int (nI (w + 1))), (6, .int (nI (i + w))), (0, .ref (xa cx 0)), (1, .int (nI j)), (2, .int (nI o)), (3, .int (nI lim)), (4, .int (nI (mosT (AL S) j))), (5, .int (nI (mosT (AL S) o))), (7, .int (nI i))]) hx hb dX4_fewestFromTwo_82 hl (k := 8) rfl (nI_add _ _) (by decide) rfl (fun ls hl => ?_)
                    refine lv_goto (tgt := 45) hx hb dX4_fewestFromTwo_85 (by decide) ?_
                    exact ih45 (w + 1) _ (i + w) μ8 _ _ _ (by omega) hL_8 (fun z hz => by rw [ho_8 z (by omega)]; rw [ho1 z (by omega)]) (by rw [hg2]; show (if w ≤ mosT (AL S) o ∧ i + w < g then f2I (AL S) j o i d (w + 1) (if clm (AL S) j i o w = true then i + w else g) else _) = _; rw [if_pos ⟨by omega, by omega⟩, ‹clm (AL S) j i o w = true›]; rfl) (by omega) hW (lv_sub hl [2, 3, 4, 5, 6, 7, 1, 8, 0] rfl)
          exact LOOP45 9 1 _ fw μ1 _ _ _ (by omega) hLi ho1 rfl hfw hW (lv_sub hl [1, 2, 3, 4, 5, 6, 7, 8, 0] rfl)
    exact LOOP35 9 1 _ lim μ1 _ _ _ (by omega) hL_1 (fun z hz => by rw [ho_1 z (by omega)]) rfl hlim hW (lv_sub hl [4, 5, 6, 7, 3, 2, 1, 0] rfl)
  · skip
    refine lv_iload_n hx hb dX4_fewestFromTwo_27 rfl (lv_at hl 5 rfl) ?_
    exact rt_ie F hr hlk hW (by unfold f2R; rw [if_neg (by rw [‹clm _ _ _ _ _ = false›]; decide)]) ⟨⟨_, hL_1⟩, (fun z hz => by rw [ho_1 z (by omega)])⟩ dX4_fewestFromTwo_28
