theorem b2_t {p : Prop} [Decidable p] (h : p) : nI 1 = b2 (decide p) := by rw [decide_eq_true h]; rfl
theorem b2_f {p : Prop} [Decidable p] (h : ¬ p) : nI 0 = b2 (decide p) := by rw [decide_eq_false h]; rfl

theorem c_hasN {cx : CX} (hI : xI cx) (l : Launch) {μ : ME} {b : Nat} {L : LN} {B : Nat} (hb7 : b + 7 ≤ xN cx) (hL : laneR cx μ b L) (hk : lok L B) (j : Nat) (hj : j < 2147483648) : MT cx l yX0_has cX0_has 2 (some .boolean) 0 0 [.ref (xa cx b), .int (nI j)] μ (Pi cx μ (b2 (decide (j < Ln L)))) := by
  rw [← inR_nI hj]
  exact c_has hI l hb7 hL hk (nI j)
theorem c_standsN {cx : CX} (hI : xI cx) (l : Launch) {μ : ME} {b : Nat} {L : LN} {B : Nat} (hb7 : b + 7 ≤ xN cx) (hL : laneR cx μ b L) (hk : lok L B) (j : Nat) (hj : j < 2147483648) : MT cx l yX0_stands cX0_stands 2 (some .boolean) 0 0 [.ref (xa cx b), .int (nI j)] μ (Pi cx μ (b2 (lst L j))) := by
  rw [← lstI_nI hj]
  exact c_stands hI l hb7 hL hk (nI j)

set_option maxHeartbeats 4000000 in
set_option maxRecDepth 100000 in
theorem c_kindOf {cx : CX} (hI : xI cx) (l : Launch) {μ : ME} {b : Nat} {L : LN} {B : Nat} (hb7 : b + 7 ≤ xN cx) (hL : laneR cx μ b L) (hk : lok L B) (j : Nat) (hj : j < Ln L) : MT cx l yX0_kindOf cX0_kindOf 2 (some .int) 1 21 [.ref (xa cx b), .int (nI j)] μ (Pi cx μ (nI (Lk L j))) := by
  refine mt_of hI (by decide) (Nat.le_of_ble_eq_true rfl) ?_
  intro p e s m below meth c ls F hr hlk hW hl
  have hx := F.1.1
  have hb := F.1.2.1
  have hts := F.1.2.2.2.2
  obtain ⟨fk, fs, fg, fd, fl, fc, h0, h1, h2, h3, h4, h5, h6, hv, hv2⟩ := id hL
  have hn6 := hk.1
  have hU := lok_U hk
  have hk4 := hk.2.2.2.1
  have hl : lv_has ls 2 [(0, .ref (xa cx b)), (1, .int (nI j))] := hl
  refine lv_aload_n hx hb dX0_kindOf_0 rfl (lv_at hl 0 rfl) ?_
  refine lv_iload_n hx hb dX0_kindOf_1 rfl (lv_at hl 1 rfl) ?_
  refine cl_ip (cl_run (rest := []) F hW e_X0_63 (c_hasN hI l hb7 hL hk j (by omega)) ⟨Nat.le_of_ble_eq_true rfl, Nat.le_of_ble_eq_true rfl⟩ (by omega) h0 rfl rfl rfl hl (Nat.le_of_ble_eq_true rfl) dX0_kindOf_2 ⟨Nat.zero_le _, Nat.zero_le _⟩) hW (fun H locs hW => ?_)
  refine nv_beq (tgt := 17) F dX0_kindOf_5 (by decide) (fun c_1 => ?_) (fun c_1 => ?_)
  · skip
    exact absurd hj (of_decide_eq_false c_1)
  · skip
    refine lv_aload_n hx hb dX0_kindOf_8 rfl (lv_at hl 0 rfl) ?_
    refine nv_get F hW (by omega) h0 rfl iX0 0 (by decide) tw_81 rfl dX0_kindOf_9 ?_
    refine lv_iload_n hx hb dX0_kindOf_12 rfl (lv_at hl 1 rfl) ?_
    refine nv_ialdN (x := ((nI (Lk L j)))) F hW (by omega) h1 (by omega) (by decide) (hv j (by omega)).1 dX0_kindOf_13 ?_
    refine lv_goto (tgt := 19) hx hb dX0_kindOf_14 (by decide) ?_
    exact rt_ip F hr hlk hW rfl rfl dX0_kindOf_19

set_option maxHeartbeats 4000000 in
set_option maxRecDepth 100000 in
theorem c_stonesOf {cx : CX} (hI : xI cx) (l : Launch) {μ : ME} {b : Nat} {L : LN} {B : Nat} (hb7 : b + 7 ≤ xN cx) (hL : laneR cx μ b L) (hk : lok L B) (j : Nat) (hj : j < Ln L) : MT cx l yX0_stonesOf cX0_stonesOf 2 (some .int) 1 21 [.ref (xa cx b), .int (nI j)] μ (Pi cx μ (nI (Ls L j))) := by
  refine mt_of hI (by decide) (Nat.le_of_ble_eq_true rfl) ?_
  intro p e s m below meth c ls F hr hlk hW hl
  have hx := F.1.1
  have hb := F.1.2.1
  have hts := F.1.2.2.2.2
  obtain ⟨fk, fs, fg, fd, fl, fc, h0, h1, h2, h3, h4, h5, h6, hv, hv2⟩ := id hL
  have hn6 := hk.1
  have hU := lok_U hk
  have hk4 := hk.2.2.2.1
  have hl : lv_has ls 2 [(0, .ref (xa cx b)), (1, .int (nI j))] := hl
  refine lv_aload_n hx hb dX0_stonesOf_0 rfl (lv_at hl 0 rfl) ?_
  refine lv_iload_n hx hb dX0_stonesOf_1 rfl (lv_at hl 1 rfl) ?_
  refine cl_ip (cl_run (rest := []) F hW e_X0_63 (c_hasN hI l hb7 hL hk j (by omega)) ⟨Nat.le_of_ble_eq_true rfl, Nat.le_of_ble_eq_true rfl⟩ (by omega) h0 rfl rfl rfl hl (Nat.le_of_ble_eq_true rfl) dX0_stonesOf_2 ⟨Nat.zero_le _, Nat.zero_le _⟩) hW (fun H locs hW => ?_)
  refine nv_beq (tgt := 17) F dX0_stonesOf_5 (by decide) (fun c_1 => ?_) (fun c_1 => ?_)
  · skip
    exact absurd hj (of_decide_eq_false c_1)
  · skip
    refine lv_aload_n hx hb dX0_stonesOf_8 rfl (lv_at hl 0 rfl) ?_
    refine nv_get F hW (by omega) h0 rfl iX0 1 (by decide) tw_82 rfl dX0_stonesOf_9 ?_
    refine lv_iload_n hx hb dX0_stonesOf_12 rfl (lv_at hl 1 rfl) ?_
    refine nv_ialdN (x := ((nI (Ls L j)))) F hW (by omega) h2 (by omega) (by decide) (hv j (by omega)).2.1 dX0_stonesOf_13 ?_
    refine lv_goto (tgt := 18) hx hb dX0_stonesOf_14 (by decide) ?_
    exact rt_ip F hr hlk hW rfl rfl dX0_stonesOf_18

set_option maxHeartbeats 4000000 in
set_option maxRecDepth 100000 in
theorem c_strengthOf {cx : CX} (hI : xI cx) (l : Launch) {μ : ME} {b : Nat} {L : LN} {B : Nat} (hb7 : b + 7 ≤ xN cx) (hL : laneR cx μ b L) (hk : lok L B) (j : Nat) (hj : j < Ln L) : MT cx l yX0_strengthOf cX0_strengthOf 2 (some .int) 1 21 [.ref (xa cx b), .int (nI j)] μ (Pi cx μ (nI (Lg L j))) := by
  refine mt_of hI (by decide) (Nat.le_of_ble_eq_true rfl) ?_
  intro p e s m below meth c ls F hr hlk hW hl
  have hx := F.1.1
  have hb := F.1.2.1
  have hts := F.1.2.2.2.2
  obtain ⟨fk, fs, fg, fd, fl, fc, h0, h1, h2, h3, h4, h5, h6, hv, hv2⟩ := id hL
  have hn6 := hk.1
  have hU := lok_U hk
  have hk4 := hk.2.2.2.1
  have hl : lv_has ls 2 [(0, .ref (xa cx b)), (1, .int (nI j))] := hl
  refine lv_aload_n hx hb dX0_strengthOf_0 rfl (lv_at hl 0 rfl) ?_
  refine lv_iload_n hx hb dX0_strengthOf_1 rfl (lv_at hl 1 rfl) ?_
  refine cl_ip (cl_run (rest := []) F hW e_X0_63 (c_hasN hI l hb7 hL hk j (by omega)) ⟨Nat.le_of_ble_eq_true rfl, Nat.le_of_ble_eq_true rfl⟩ (by omega) h0 rfl rfl rfl hl (Nat.le_of_ble_eq_true rfl) dX0_strengthOf_2 ⟨Nat.zero_le _, Nat.zero_le _⟩) hW (fun H locs hW => ?_)
  refine nv_beq (tgt := 17) F dX0_strengthOf_5 (by decide) (fun c_1 => ?_) (fun c_1 => ?_)
  · skip
    exact absurd hj (of_decide_eq_false c_1)
  · skip
    refine lv_aload_n hx hb dX0_strengthOf_8 rfl (lv_at hl 0 rfl) ?_
    refine nv_get F hW (by omega) h0 rfl iX0 2 (by decide) tw_83 rfl dX0_strengthOf_9 ?_
    refine lv_iload_n hx hb dX0_strengthOf_12 rfl (lv_at hl 1 rfl) ?_
    refine nv_ialdN (x := ((nI (Lg L j)))) F hW (by omega) h3 (by omega) (by decide) (hv j (by omega)).2.2.1 dX0_strengthOf_13 ?_
    refine lv_goto (tgt := 18) hx hb dX0_strengthOf_14 (by decide) ?_
    exact rt_ip F hr hlk hW rfl rfl dX0_strengthOf_18

set_option maxHeartbeats 4000000 in
set_option maxRecDepth 100000 in
theorem c_deedOf {cx : CX} (hI : xI cx) (l : Launch) {μ : ME} {b : Nat} {L : LN} {B : Nat} (hb7 : b + 7 ≤ xN cx) (hL : laneR cx μ b L) (hk : lok L B) (j : Nat) (hj : j < Ln L) : MT cx l yX0_deedOf cX0_deedOf 2 (some .int) 1 21 [.ref (xa cx b), .int (nI j)] μ (Pi cx μ (nI (Ld L j))) := by
  refine mt_of hI (by decide) (Nat.le_of_ble_eq_true rfl) ?_
  intro p e s m below meth c ls F hr hlk hW hl
  have hx := F.1.1
  have hb := F.1.2.1
  have hts := F.1.2.2.2.2
  obtain ⟨fk, fs, fg, fd, fl, fc, h0, h1, h2, h3, h4, h5, h6, hv, hv2⟩ := id hL
  have hn6 := hk.1
  have hU := lok_U hk
  have hk4 := hk.2.2.2.1
  have hl : lv_has ls 2 [(0, .ref (xa cx b)), (1, .int (nI j))] := hl
  refine lv_aload_n hx hb dX0_deedOf_0 rfl (lv_at hl 0 rfl) ?_
  refine lv_iload_n hx hb dX0_deedOf_1 rfl (lv_at hl 1 rfl) ?_
  refine cl_ip (cl_run (rest := []) F hW e_X0_63 (c_hasN hI l hb7 hL hk j (by omega)) ⟨Nat.le_of_ble_eq_true rfl, Nat.le_of_ble_eq_true rfl⟩ (by omega) h0 rfl rfl rfl hl (Nat.le_of_ble_eq_true rfl) dX0_deedOf_2 ⟨Nat.zero_le _, Nat.zero_le _⟩) hW (fun H locs hW => ?_)
  refine nv_beq (tgt := 17) F dX0_deedOf_5 (by decide) (fun c_1 => ?_) (fun c_1 => ?_)
  · skip
    exact absurd hj (of_decide_eq_false c_1)
  · skip
    refine lv_aload_n hx hb dX0_deedOf_8 rfl (lv_at hl 0 rfl) ?_
    refine nv_get F hW (by omega) h0 rfl iX0 3 (by decide) tw_84 rfl dX0_deedOf_9 ?_
    refine lv_iload_n hx hb dX0_deedOf_12 rfl (lv_at hl 1 rfl) ?_
    refine nv_ialdN (x := ((nI (Ld L j)))) F hW (by omega) h4 (by omega) (by decide) (hv j (by omega)).2.2.2 dX0_deedOf_13 ?_
    refine lv_goto (tgt := 18) hx hb dX0_deedOf_14 (by decide) ?_
    exact rt_ip F hr hlk hW rfl rfl dX0_deedOf_18

set_option maxHeartbeats 4000000 in
set_option maxRecDepth 100000 in
theorem c_loadOf {cx : CX} (hI : xI cx) (l : Launch) {μ : ME} {b : Nat} {L : LN} {B : Nat} (hb7 : b + 7 ≤ xN cx) (hL : laneR cx μ b L) (hk : lok L B) (j : Nat) (hj : j < Ln L) : MT cx l yX0_loadOf cX0_loadOf 2 (some .int) 1 21 [.ref (xa cx b), .int (nI j)] μ (Pi cx μ (nI (Ll L j))) := by
  refine mt_of hI (by decide) (Nat.le_of_ble_eq_true rfl) ?_
  intro p e s m below meth c ls F hr hlk hW hl
  have hx := F.1.1
  have hb := F.1.2.1
  have hts := F.1.2.2.2.2
  obtain ⟨fk, fs, fg, fd, fl, fc, h0, h1, h2, h3, h4, h5, h6, hv, hv2⟩ := id hL
  have hn6 := hk.1
  have hU := lok_U hk
  have hk4 := hk.2.2.2.1
  have hl : lv_has ls 2 [(0, .ref (xa cx b)), (1, .int (nI j))] := hl
  refine lv_aload_n hx hb dX0_loadOf_0 rfl (lv_at hl 0 rfl) ?_
  refine lv_iload_n hx hb dX0_loadOf_1 rfl (lv_at hl 1 rfl) ?_
  refine cl_ip (cl_run (rest := []) F hW e_X0_67 (c_standsN hI l hb7 hL hk j (by omega)) ⟨Nat.le_of_ble_eq_true rfl, Nat.le_of_ble_eq_true rfl⟩ (by omega) h0 rfl rfl rfl hl (Nat.le_of_ble_eq_true rfl) dX0_loadOf_2 ⟨Nat.zero_le _, Nat.zero_le _⟩) hW (fun H locs hW => ?_)
  refine nv_beq (tgt := 17) F dX0_loadOf_5 (by decide) (fun c_1 => ?_) (fun c_1 => ?_)
  · skip
    refine lv_iconst (v := nI 0) hx hb dX0_loadOf_17 (by decide) ?_
    exact rt_ip F hr hlk hW (by rw [hk.2.2.2.2.2.1 j c_1]) rfl dX0_loadOf_18
  · skip
    refine lv_aload_n hx hb dX0_loadOf_8 rfl (lv_at hl 0 rfl) ?_
    refine nv_get F hW (by omega) h0 rfl iX0 4 (by decide) tw_85 rfl dX0_loadOf_9 ?_
    refine lv_iload_n hx hb dX0_loadOf_12 rfl (lv_at hl 1 rfl) ?_
    refine nv_ialdN (x := ((nI (Ll L j)))) F hW (by omega) h5 (by omega) (by decide) (hv2 j c_1) dX0_loadOf_13 ?_
    refine lv_goto (tgt := 18) hx hb dX0_loadOf_14 (by decide) ?_
    exact rt_ip F hr hlk hW rfl rfl dX0_loadOf_18

set_option maxHeartbeats 4000000 in
set_option maxRecDepth 100000 in
theorem c_givesOf {cx : CX} (hI : xI cx) (l : Launch) {μ : ME} {b : Nat} {L : LN} {B : Nat} (hb7 : b + 7 ≤ xN cx) (hL : laneR cx μ b L) (hk : lok L B) (hB : B < 1000000000) (j : Nat) (hj : j < Ln L) : MT cx l yX0_givesOf cX0_givesOf 2 (some .int) 1 21 [.ref (xa cx b), .int (nI j)] μ (Pi cx μ (nI (lgi L j))) := by
  refine mt_of hI (by decide) (Nat.le_of_ble_eq_true rfl) ?_
  intro p e s m below meth c ls F hr hlk hW hl
  have hx := F.1.1
  have hb := F.1.2.1
  have hts := F.1.2.2.2.2
  obtain ⟨fk, fs, fg, fd, fl, fc, h0, h1, h2, h3, h4, h5, h6, hv, hv2⟩ := id hL
  have hn6 := hk.1
  have hU := lok_U hk
  have hk4 := hk.2.2.2.1
  have hl : lv_has ls 2 [(0, .ref (xa cx b)), (1, .int (nI j))] := hl
  refine lv_aload_n hx hb dX0_givesOf_0 rfl (lv_at hl 0 rfl) ?_
  refine lv_iload_n hx hb dX0_givesOf_1 rfl (lv_at hl 1 rfl) ?_
  refine cl_ip (cl_run (rest := []) F hW e_X0_67 (c_standsN hI l hb7 hL hk j (by omega)) ⟨Nat.le_of_ble_eq_true rfl, Nat.le_of_ble_eq_true rfl⟩ (by omega) h0 rfl rfl rfl hl (Nat.le_of_ble_eq_true rfl) dX0_givesOf_2 ⟨Nat.zero_le _, Nat.zero_le _⟩) hW (fun H locs hW => ?_)
  refine nv_beq (tgt := 26) F dX0_givesOf_5 (by decide) (fun c_1 => ?_) (fun c_1 => ?_)
  · skip
    refine lv_iconst (v := nI 0) hx hb dX0_givesOf_26 (by decide) ?_
    exact rt_ip F hr hlk hW (by unfold lgi; rw [c_1]; rfl) rfl dX0_givesOf_27
  · skip
    refine lv_aload_n hx hb dX0_givesOf_8 rfl (lv_at hl 0 rfl) ?_
    refine nv_get F hW (by omega) h0 rfl iX0 0 (by decide) tw_81 rfl dX0_givesOf_9 ?_
    refine lv_iload_n hx hb dX0_givesOf_12 rfl (lv_at hl 1 rfl) ?_
    refine nv_ialdN (x := ((nI (Lk L j)))) F hW (by omega) h1 (by omega) (by decide) (hv j (by omega)).1 dX0_givesOf_13 ?_
    refine lv_aload_n hx hb dX0_givesOf_14 rfl (lv_at hl 0 rfl) ?_
    refine nv_get F hW (by omega) h0 rfl iX0 4 (by decide) tw_85 rfl dX0_givesOf_15 ?_
    refine lv_iload_n hx hb dX0_givesOf_18 rfl (lv_at hl 1 rfl) ?_
    refine nv_ialdN (x := ((nI (Ll L j)))) F hW (by omega) h5 (by omega) (by decide) (hv2 j c_1) dX0_givesOf_19 ?_
    refine cl_ip (cl_runS (rest := []) F hW e_X0_70 (c_given hI l (Lk L j) ((nI (Ll L j))) (hk4 _ (by omega)).1) ⟨Nat.le_of_ble_eq_true rfl, Nat.le_of_ble_eq_true rfl⟩ rfl rfl hl (Nat.le_of_ble_eq_true rfl) dX0_givesOf_20 ⟨Nat.zero_le _, Nat.zero_le _⟩) hW (fun H locs hW => ?_)
    refine nv_top (y := ((nI (gv (Lk L j) (Ll L j))))) (gvI_nI (by have := lok_l hk j; omega)) ?_
    refine lv_goto (tgt := 27) hx hb dX0_givesOf_23 (by decide) ?_
    exact rt_ip F hr hlk hW (by unfold lgi; rw [c_1]; rfl) rfl dX0_givesOf_27

theorem lgr_eq {L : LN} {B : Nat} (hk : lok L B) {j : Nat} : lgr L j = Ll L j - lgi L j := by
  unfold lgr lgi
  cases q : lst L j with
  | true => rfl
  | false => rw [hk.2.2.2.2.2.1 j q]; rfl

set_option maxHeartbeats 4000000 in
set_option maxRecDepth 100000 in
theorem c_groundOf {cx : CX} (hI : xI cx) (l : Launch) {μ : ME} {b : Nat} {L : LN} {B : Nat} (hb7 : b + 7 ≤ xN cx) (hL : laneR cx μ b L) (hk : lok L B) (hB : B < 1000000000) (j : Nat) (hj : j < Ln L) : MT cx l yX0_groundOf cX0_groundOf 2 (some .int) 2 42 [.ref (xa cx b), .int (nI j)] μ (Pi cx μ (nI (lgr L j))) := by
  refine mt_of hI (by decide) (Nat.le_of_ble_eq_true rfl) ?_
  intro p e s m below meth c ls F hr hlk hW hl
  have hx := F.1.1
  have hb := F.1.2.1
  have hts := F.1.2.2.2.2
  obtain ⟨fk, fs, fg, fd, fl, fc, h0, h1, h2, h3, h4, h5, h6, hv, hv2⟩ := id hL
  have hn6 := hk.1
  have hU := lok_U hk
  have hk4 := hk.2.2.2.1
  have hl : lv_has ls 2 [(0, .ref (xa cx b)), (1, .int (nI j))] := hl
  refine lv_aload_n hx hb dX0_groundOf_0 rfl (lv_at hl 0 rfl) ?_
  refine lv_iload_n hx hb dX0_groundOf_1 rfl (lv_at hl 1 rfl) ?_
  refine cl_ip (cl_run (rest := []) F hW e_X0_73 (c_loadOf hI l hb7 hL hk j (by omega)) ⟨Nat.le_of_ble_eq_true rfl, Nat.le_of_ble_eq_true rfl⟩ (by omega) h0 rfl rfl rfl hl (Nat.le_of_ble_eq_true rfl) dX0_groundOf_2 ⟨Nat.zero_le _, Nat.zero_le _⟩) hW (fun H locs hW => ?_)
  refine lv_aload_n hx hb dX0_groundOf_5 rfl (lv_at hl 0 rfl) ?_
  refine lv_iload_n hx hb dX0_groundOf_6 rfl (lv_at hl 1 rfl) ?_
  refine cl_ip (cl_run (rest := [.int (nI (Ll L j))]) F hW e_X0_76 (c_givesOf hI l hb7 hL hk (by omega) j (by omega)) ⟨Nat.le_of_ble_eq_true rfl, Nat.le_of_ble_eq_true rfl⟩ (by omega) h0 rfl rfl rfl hl (Nat.le_of_ble_eq_true rfl) dX0_groundOf_7 ⟨Nat.zero_le _, Nat.zero_le _⟩) hW (fun H locs hW => ?_)
  refine nv_sub F (lgi_le L j) dX0_groundOf_10 ?_
  exact rt_ip F hr hlk hW (by rw [lgr_eq hk]) rfl dX0_groundOf_11

set_option maxHeartbeats 4000000 in
set_option maxRecDepth 100000 in
theorem c_supportOf {cx : CX} (hI : xI cx) (l : Launch) {μ : ME} {b : Nat} {L : LN} {B : Nat} (hb7 : b + 7 ≤ xN cx) (hL : laneR cx μ b L) (hk : lok L B) (j : Nat) (hj : j < Ln L) : MT cx l yX0_supportOf cX0_supportOf 2 (some .int) 0 0 [.ref (xa cx b), .int (nI j)] μ (Pi cx μ (supI (Ld L j) j)) := by
  refine mt_of hI (by decide) (Nat.le_of_ble_eq_true rfl) ?_
  intro p e s m below meth c ls F hr hlk hW hl
  have hx := F.1.1
  have hb := F.1.2.1
  have hts := F.1.2.2.2.2
  obtain ⟨fk, fs, fg, fd, fl, fc, h0, h1, h2, h3, h4, h5, h6, hv, hv2⟩ := id hL
  have hn6 := hk.1
  have hU := lok_U hk
  have hk4 := hk.2.2.2.1
  have hl : lv_has ls 2 [(0, .ref (xa cx b)), (1, .int (nI j))] := hl
  refine lv_iload_n hx hb dX0_supportOf_0 rfl (lv_at hl 1 rfl) ?_
  refine nv_zlt (tgt := 12) F (by omega) dX0_supportOf_1 (by decide) (fun c_1 => ?_) (fun c_1 => ?_)
  · skip
    exact absurd c_1 (by omega)
  · skip
    refine lv_iload_n hx hb dX0_supportOf_4 rfl (lv_at hl 1 rfl) ?_
    refine lv_aload_n hx hb dX0_supportOf_5 rfl (lv_at hl 0 rfl) ?_
    refine nv_get F hW (by omega) h0 rfl iX0 6 (by decide) tw_87 rfl dX0_supportOf_6 ?_
    refine nv_clt (tgt := 14) F (by omega) (by omega) dX0_supportOf_9 (by decide) (fun c_2 => ?_) (fun c_2 => ?_)
    · skip
      refine lv_aload_n hx hb dX0_supportOf_14 rfl (lv_at hl 0 rfl) ?_
      refine nv_get F hW (by omega) h0 rfl iX0 3 (by decide) tw_84 rfl dX0_supportOf_15 ?_
      refine lv_iload_n hx hb dX0_supportOf_18 rfl (lv_at hl 1 rfl) ?_
      obtain ⟨dj, edj⟩ : ∃ z, z = Ld L j := ⟨_, rfl⟩
      refine nv_ialdN (x := ((nI dj))) F hW (by omega) h4 (by omega) (by decide) (by rw [edj]; exact (hv j hj).2.2.2) dX0_supportOf_19 ?_
      have hd3 : dj ≤ 3 := by rw [edj]; exact (hk4 j hj).2.2.2
      rcases (show dj = 0 ∨ dj = 1 ∨ dj = 2 ∨ dj = 3 by omega) with rfl | rfl | rfl | rfl
      · skip
        refine lv_tableIn (tgt := 48) hx hb dX0_supportOf_20 (by decide) (by decide) rfl (by decide) ?_
        refine lv_iload_n hx hb dX0_supportOf_48 rfl (lv_at hl 1 rfl) ?_
        refine lv_iconst (v := nI 1) hx hb dX0_supportOf_49 (by decide) ?_
        refine lv_isub hx hb dX0_supportOf_50 ?_
        exact rt_ip F hr hlk hW (by rw [← edj]; rfl) rfl dX0_supportOf_51
      · skip
        refine lv_tableIn (tgt := 52) hx hb dX0_supportOf_20 (by decide) (by decide) rfl (by decide) ?_
        refine lv_iload_n hx hb dX0_supportOf_52 rfl (lv_at hl 1 rfl) ?_
        refine lv_iconst (v := nI 1) hx hb dX0_supportOf_53 (by decide) ?_
        refine nv_add F dX0_supportOf_54 ?_
        exact rt_ip F hr hlk hW (by rw [← edj]; rfl) rfl dX0_supportOf_55
      · skip
        refine lv_tableIn (tgt := 56) hx hb dX0_supportOf_20 (by decide) (by decide) rfl (by decide) ?_
        refine lv_bipush (v := (-2)) hx hb dX0_supportOf_56 (by decide) ?_
        exact rt_ip F hr hlk hW (by rw [← edj]; rfl) rfl dX0_supportOf_58
      · skip
        refine lv_tableOut (tgt := 59) hx hb dX0_supportOf_20 (by decide) (by decide) ?_
        refine lv_iconst (v := (-1)) hx hb dX0_supportOf_59 (by decide) ?_
        exact rt_ip F hr hlk hW (by rw [← edj]; rfl) rfl dX0_supportOf_60
    · skip
      exact absurd c_2 (by omega)

set_option maxHeartbeats 4000000 in
set_option maxRecDepth 100000 in
theorem c_isCarried {cx : CX} (hI : xI cx) (l : Launch) {μ : ME} (v : Int32) : MT cx l yX4_isCarried cX4_isCarried 1 (some .boolean) 0 0 [.int v] μ (Pi cx μ (b2 (carI v))) := by
  refine mt_of hI (by decide) (Nat.le_of_ble_eq_true rfl) ?_
  intro p e s m below meth c ls F hr hlk hW hl
  have hx := F.1.1
  have hb := F.1.2.1
  have hts := F.1.2.2.2.2
  have hl : lv_has ls 1 [(0, .int v)] := hl
  refine lv_iload_n hx hb dX4_isCarried_0 rfl (lv_at hl 0 rfl) ?_
  refine lv_iconst (v := nI 1) hx hb dX4_isCarried_1 (by decide) ?_
  refine lv_icmp_lt (tgt := 15) hx hb dX4_isCarried_2 (by decide) (fun c_1 => ?_) (fun c_1 => ?_)
  · skip
    refine lv_iconst (v := nI 0) hx hb dX4_isCarried_15 (by decide) ?_
    exact rt_zp F hr hlk hW (by first | (rw [car_lo (by assumption)]; rfl) | (rw [car_hi (by assumption)]; rfl)) rfl dX4_isCarried_16
  · skip
    refine lv_iload_n hx hb dX4_isCarried_5 rfl (lv_at hl 0 rfl) ?_
    refine lv_bipush (v := nI 9) hx hb dX4_isCarried_6 (by decide) ?_
    refine lv_icmp_gt (tgt := 15) hx hb dX4_isCarried_8 (by decide) (fun c_2 => ?_) (fun c_2 => ?_)
    · skip
      refine lv_iconst (v := nI 0) hx hb dX4_isCarried_15 (by decide) ?_
      exact rt_zp F hr hlk hW (by first | (rw [car_lo (by assumption)]; rfl) | (rw [car_hi (by assumption)]; rfl)) rfl dX4_isCarried_16
    · skip
      refine lv_iconst (v := nI 1) hx hb dX4_isCarried_11 (by decide) ?_
      refine lv_goto (tgt := 16) hx hb dX4_isCarried_12 (by decide) ?_
      exact rt_zp F hr hlk hW (by rw [car_in c_1 c_2]; rfl) rfl dX4_isCarried_16

theorem c_isCarriedN {cx : CX} (hI : xI cx) (l : Launch) {μ : ME} (v : Nat) (hv : v < 2147483648) : MT cx l yX4_isCarried cX4_isCarried 1 (some .boolean) 0 0 [.int (nI v)] μ (Pi cx μ (b2 (decide (1 ≤ v ∧ v ≤ 9)))) := by
  rw [← carI_nI hv]
  exact c_isCarried hI l (nI v)

set_option maxHeartbeats 4000000 in
set_option maxRecDepth 100000 in
theorem c_canAdd {cx : CX} (hI : xI cx) (l : Launch) {μ : ME} {b : Nat} {L : LN} {B : Nat} (hb7 : b + 7 ≤ xN cx) (hL : laneR cx μ b L) (hk : lok L B) (j v : Nat) (hjj : j < 2147483648) (hvv : v < 2147483648) : MT cx l yX0_canAdd cX0_canAdd 3 (some .boolean) 1 21 [.ref (xa cx b), .int (nI j), .int (nI v)] μ (Pi cx μ (b2 (decide (j < Ln L ∧ (1 ≤ v ∧ v ≤ 9) ∧ Ls L j + v ≤ 99)))) := by
  refine mt_of hI (by decide) (Nat.le_of_ble_eq_true rfl) ?_
  intro p e s m below meth c ls F hr hlk hW hl
  have hx := F.1.1
  have hb := F.1.2.1
  have hts := F.1.2.2.2.2
  obtain ⟨fk, fs, fg, fd, fl, fc, h0, h1, h2, h3, h4, h5, h6, hv, hv2⟩ := id hL
  have hn6 := hk.1
  have hU := lok_U hk
  have hk4 := hk.2.2.2.1
  have hl : lv_has ls 3 [(0, .ref (xa cx b)), (1, .int (nI j)), (2, .int (nI v))] := hl
  refine lv_aload_n hx hb dX0_canAdd_0 rfl (lv_at hl 0 rfl) ?_
  refine lv_iload_n hx hb dX0_canAdd_1 rfl (lv_at hl 1 rfl) ?_
  refine cl_ip (cl_run (rest := []) F hW e_X0_63 (c_hasN hI l hb7 hL hk j (by omega)) ⟨Nat.le_of_ble_eq_true rfl, Nat.le_of_ble_eq_true rfl⟩ (by omega) h0 rfl rfl rfl hl (Nat.le_of_ble_eq_true rfl) dX0_canAdd_2 ⟨Nat.zero_le _, Nat.zero_le _⟩) hW (fun H locs hW => ?_)
  refine nv_beq (tgt := 32) F dX0_canAdd_5 (by decide) (fun c_1 => ?_) (fun c_1 => ?_)
  · skip
    refine lv_iconst (v := nI 0) hx hb dX0_canAdd_32 (by decide) ?_
    exact rt_zp F hr hlk hW (b2_f (fun q => by first | exact (of_decide_eq_false ‹decide (j < Ln L) = false›) q.1 | exact (of_decide_eq_false ‹decide (1 ≤ v ∧ v ≤ 9) = false›) q.2.1 | omega)) rfl dX0_canAdd_33
  · skip
    have hj := of_decide_eq_true c_1
    refine lv_iload_n hx hb dX0_canAdd_8 rfl (lv_at hl 2 rfl) ?_
    refine cl_ip (cl_runN (rest := []) F hW tw_nest (c_isCarriedN hI l v (by omega)) ⟨Nat.le_of_ble_eq_true rfl, Nat.le_of_ble_eq_true rfl⟩ rfl rfl hl (Nat.le_of_ble_eq_true rfl) dX0_canAdd_9 ⟨Nat.zero_le _, Nat.zero_le _⟩) hW (fun H locs hW => ?_)
    refine nv_beq (tgt := 32) F dX0_canAdd_12 (by decide) (fun c_2 => ?_) (fun c_2 => ?_)
    · skip
      refine lv_iconst (v := nI 0) hx hb dX0_canAdd_32 (by decide) ?_
      exact rt_zp F hr hlk hW (b2_f (fun q => by first | exact (of_decide_eq_false ‹decide (j < Ln L) = false›) q.1 | exact (of_decide_eq_false ‹decide (1 ≤ v ∧ v ≤ 9) = false›) q.2.1 | omega)) rfl dX0_canAdd_33
    · skip
      have hv19 := of_decide_eq_true c_2
      refine lv_aload_n hx hb dX0_canAdd_15 rfl (lv_at hl 0 rfl) ?_
      refine nv_get F hW (by omega) h0 rfl iX0 1 (by decide) tw_82 rfl dX0_canAdd_16 ?_
      refine lv_iload_n hx hb dX0_canAdd_19 rfl (lv_at hl 1 rfl) ?_
      refine nv_ialdN (x := ((nI (Ls L j)))) F hW (by omega) h2 (by omega) (by decide) (hv j (by omega)).2.1 dX0_canAdd_20 ?_
      refine lv_iload_n hx hb dX0_canAdd_21 rfl (lv_at hl 2 rfl) ?_
      refine nv_add F dX0_canAdd_22 ?_
      refine lv_bipush (v := nI 99) hx hb dX0_canAdd_23 (by decide) ?_
      refine nv_cgt (tgt := 32) F (by have := (hk4 j hj).2.1; omega) (by omega) dX0_canAdd_25 (by decide) (fun c_3 => ?_) (fun c_3 => ?_)
      · skip
        refine lv_iconst (v := nI 0) hx hb dX0_canAdd_32 (by decide) ?_
        exact rt_zp F hr hlk hW (b2_f (fun q => by first | exact (of_decide_eq_false ‹decide (j < Ln L) = false›) q.1 | exact (of_decide_eq_false ‹decide (1 ≤ v ∧ v ≤ 9) = false›) q.2.1 | omega)) rfl dX0_canAdd_33
      · skip
        refine lv_iconst (v := nI 1) hx hb dX0_canAdd_28 (by decide) ?_
        refine lv_goto (tgt := 33) hx hb dX0_canAdd_29 (by decide) ?_
        exact rt_zp F hr hlk hW (b2_t ⟨hj, hv19, by omega⟩) rfl dX0_canAdd_33

set_option maxHeartbeats 4000000 in
set_option maxRecDepth 100000 in
theorem c_canRemove {cx : CX} (hI : xI cx) (l : Launch) {μ : ME} {b : Nat} {L : LN} {B : Nat} (hb7 : b + 7 ≤ xN cx) (hL : laneR cx μ b L) (hk : lok L B) (j v : Nat) (hjj : j < 2147483648) (hvv : v < 2147483648) : MT cx l yX0_canRemove cX0_canRemove 3 (some .boolean) 1 21 [.ref (xa cx b), .int (nI j), .int (nI v)] μ (Pi cx μ (b2 (decide (j < Ln L ∧ (1 ≤ v ∧ v ≤ 9) ∧ v ≤ Ls L j)))) := by
  refine mt_of hI (by decide) (Nat.le_of_ble_eq_true rfl) ?_
  intro p e s m below meth c ls F hr hlk hW hl
  have hx := F.1.1
  have hb := F.1.2.1
  have hts := F.1.2.2.2.2
  obtain ⟨fk, fs, fg, fd, fl, fc, h0, h1, h2, h3, h4, h5, h6, hv, hv2⟩ := id hL
  have hn6 := hk.1
  have hU := lok_U hk
  have hk4 := hk.2.2.2.1
  have hl : lv_has ls 3 [(0, .ref (xa cx b)), (1, .int (nI j)), (2, .int (nI v))] := hl
  refine lv_aload_n hx hb dX0_canRemove_0 rfl (lv_at hl 0 rfl) ?_
  refine lv_iload_n hx hb dX0_canRemove_1 rfl (lv_at hl 1 rfl) ?_
  refine cl_ip (cl_run (rest := []) F hW e_X0_63 (c_hasN hI l hb7 hL hk j (by omega)) ⟨Nat.le_of_ble_eq_true rfl, Nat.le_of_ble_eq_true rfl⟩ (by omega) h0 rfl rfl rfl hl (Nat.le_of_ble_eq_true rfl) dX0_canRemove_2 ⟨Nat.zero_le _, Nat.zero_le _⟩) hW (fun H locs hW => ?_)
  refine nv_beq (tgt := 29) F dX0_canRemove_5 (by decide) (fun c_1 => ?_) (fun c_1 => ?_)
  · skip
    refine lv_iconst (v := nI 0) hx hb dX0_canRemove_29 (by decide) ?_
    exact rt_zp F hr hlk hW (b2_f (fun q => by first | exact (of_decide_eq_false ‹decide (j < Ln L) = false›) q.1 | exact (of_decide_eq_false ‹decide (1 ≤ v ∧ v ≤ 9) = false›) q.2.1 | omega)) rfl dX0_canRemove_30
  · skip
    have hj := of_decide_eq_true c_1
    refine lv_iload_n hx hb dX0_canRemove_8 rfl (lv_at hl 2 rfl) ?_
    refine cl_ip (cl_runN (rest := []) F hW tw_nest (c_isCarriedN hI l v (by omega)) ⟨Nat.le_of_ble_eq_true rfl, Nat.le_of_ble_eq_true rfl⟩ rfl rfl hl (Nat.le_of_ble_eq_true rfl) dX0_canRemove_9 ⟨Nat.zero_le _, Nat.zero_le _⟩) hW (fun H locs hW => ?_)
    refine nv_beq (tgt := 29) F dX0_canRemove_12 (by decide) (fun c_2 => ?_) (fun c_2 => ?_)
    · skip
      refine lv_iconst (v := nI 0) hx hb dX0_canRemove_29 (by decide) ?_
      exact rt_zp F hr hlk hW (b2_f (fun q => by first | exact (of_decide_eq_false ‹decide (j < Ln L) = false›) q.1 | exact (of_decide_eq_false ‹decide (1 ≤ v ∧ v ≤ 9) = false›) q.2.1 | omega)) rfl dX0_canRemove_30
    · skip
      have hv19 := of_decide_eq_true c_2
      refine lv_aload_n hx hb dX0_canRemove_15 rfl (lv_at hl 0 rfl) ?_
      refine nv_get F hW (by omega) h0 rfl iX0 1 (by decide) tw_82 rfl dX0_canRemove_16 ?_
      refine lv_iload_n hx hb dX0_canRemove_19 rfl (lv_at hl 1 rfl) ?_
      refine nv_ialdN (x := ((nI (Ls L j)))) F hW (by omega) h2 (by omega) (by decide) (hv j (by omega)).2.1 dX0_canRemove_20 ?_
      refine lv_iload_n hx hb dX0_canRemove_21 rfl (lv_at hl 2 rfl) ?_
      refine nv_clt (tgt := 29) F (by have := (hk4 j hj).2.1; omega) (by omega) dX0_canRemove_22 (by decide) (fun c_3 => ?_) (fun c_3 => ?_)
      · skip
        refine lv_iconst (v := nI 0) hx hb dX0_canRemove_29 (by decide) ?_
        exact rt_zp F hr hlk hW (b2_f (fun q => by first | exact (of_decide_eq_false ‹decide (j < Ln L) = false›) q.1 | exact (of_decide_eq_false ‹decide (1 ≤ v ∧ v ≤ 9) = false›) q.2.1 | omega)) rfl dX0_canRemove_30
      · skip
        refine lv_iconst (v := nI 1) hx hb dX0_canRemove_25 (by decide) ?_
        refine lv_goto (tgt := 30) hx hb dX0_canRemove_26 (by decide) ?_
        exact rt_zp F hr hlk hW (b2_t ⟨hj, hv19, by omega⟩) rfl dX0_canRemove_30
