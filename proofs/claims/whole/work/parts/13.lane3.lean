theorem upd_va {f : Nat → Int32} {g : Nat → Nat} {n j v : Nat} (h : ∀ i, i < n → f i = nI (g i)) : ∀ i, i < n → upd f j (nI v) i = nI (va_up g j v i) := by
  intro i hi
  unfold upd va_up
  split
  · rfl
  · exact h i hi
def canA (L : LN) (j v : Nat) : Bool := decide (j < Ln L ∧ (1 ≤ v ∧ v ≤ 9) ∧ Ls L j + v ≤ 99)
def addS (L : LN) (j v : Nat) : LN := if canA L j v then sets L (va_up (Ls L) j (Ls L j + v)) else L
def canS (L : LN) (j v : Nat) : Bool := decide (j < Ln L ∧ (1 ≤ v ∧ v ≤ 9) ∧ v ≤ Ls L j)
def subS (L : LN) (j v : Nat) : LN := if canS L j v then sets L (va_up (Ls L) j (Ls L j - v)) else L
def canD (L : LN) (j d : Nat) : Bool := decide (j < Ln L ∧ d < 3 ∧ ¬ Ld L j = d)
def setD (L : LN) (j d : Nat) : LN := if canD L j d then setd L (va_up (Ld L) j d) else L
def canR (L : LN) (j : Nat) : Bool := decide (j < Ln L) && !lst L j
def upL (L : LN) (j : Nat) : LN := (Ln L, Lk L, Ls L, Lg L, Ld L, va_up (Ll L) j (Ls L j), LU L ||| 2 ^ j, Lh L)
def raiseL (L : LN) (j : Nat) : LN := if canR L j then upL (Ln L, (if Lk L j = 4 then va_up (Lk L) j 0 else Lk L), Ls L, Lg L, Ld L, Ll L, LU L, Lh L) j else L
def emptyL (L : LN) (bits : Nat) : LN := sets L (fun i => if bits.testBit i then Ls L i else 0)
def failL (L : LN) (bits : Nat) : LN := setd L (fun i => if bits.testBit i then 3 else Ld L i)
theorem lst_up {L : LN} {j i : Nat} (hj : j < Ln L) : lst (upL L j) i = (lst L i || decide (i = j)) := by
  show (decide (i < Ln L) && (LU L ||| 2 ^ j).testBit i) = ((decide (i < Ln L) && (LU L).testBit i) || decide (i = j))
  rw [Nat.testBit_or, Nat.testBit_two_pow]
  by_cases h : i = j
  · subst h
    simp [hj]
  · have : ¬ j = i := fun q => h q.symm
    simp [h, this]

set_option maxHeartbeats 4000000 in
set_option maxRecDepth 100000 in
theorem c_addStones {cx : CX} (hI : xI cx) (l : Launch) {μ : ME} {b : Nat} {L : LN} {B : Nat} (hb7 : b + 7 ≤ xN cx) (hL : laneR cx μ b L) (hk : lok L B) (j v : Nat) (hjj : j < 2147483648) (hvv : v < 2147483648) : MT cx l yX0_addStones cX0_addStones 3 (some .boolean) 2 43 [.ref (xa cx b), .int (nI j), .int (nI v)] μ (Ei cx (b2 (canA L j v)) (fun μ1 => laneR cx μ1 b (addS L j v) ∧ off b 7 μ μ1)) := by
  refine mt_of hI (by decide) (Nat.le_of_ble_eq_true rfl) ?_
  intro p e s m below meth c ls F hr hlk hW hl
  have hx := F.1.1
  have hb := F.1.2.1
  have hts := F.1.2.2.2.2
  obtain ⟨fk, fs, fg, fd, fl, fc, h0, h1, h2, h3, h4, h5, h6, hv, hv2⟩ := id hL
  have hn6 := hk.1
  have hU := lok_U hk
  have hk4 := hk.2.2.2.1
  have hl : lv_has ls 3 [(0, .ref (xa cx b)), (1, .int (nI j)), (2, .int (nI v))] := hl
  refine lv_aload_n hx hb dX0_addStones_0 rfl (lv_at hl 0 rfl) ?_
  refine lv_iload_n hx hb dX0_addStones_1 rfl (lv_at hl 1 rfl) ?_
  refine lv_iload_n hx hb dX0_addStones_2 rfl (lv_at hl 2 rfl) ?_
  refine cl_ip (cl_run (rest := []) F hW e_X0_99 (c_canAdd hI l hb7 hL hk j v (by omega) (by omega)) ⟨Nat.le_of_ble_eq_true rfl, Nat.le_of_ble_eq_true rfl⟩ (by omega) h0 rfl rfl rfl hl (Nat.le_of_ble_eq_true rfl) dX0_addStones_3 ⟨Nat.zero_le _, Nat.zero_le _⟩) hW (fun H locs hW => ?_)
  refine nv_bne (tgt := 11) F dX0_addStones_6 (by decide) (fun c_1 => ?_) (fun c_1 => ?_)
  · skip
    have hc := of_decide_eq_true c_1
    have hj := hc.1
    have hc2 := hc.2.2
    have c_1 : canA L j v = true := c_1
    refine lv_aload_n hx hb dX0_addStones_11 rfl (lv_at hl 0 rfl) ?_
    refine nv_get F hW (by omega) h0 rfl iX0 1 (by decide) tw_82 rfl dX0_addStones_12 ?_
    refine lv_iload_n hx hb dX0_addStones_15 rfl (lv_at hl 1 rfl) ?_
    refine lv_dup2_11 hx hb dX0_addStones_16 rfl rfl ?_
    refine nv_ialdN (x := ((nI (Ls L j)))) F hW (by omega) h2 (by omega) (by decide) (hv j (by omega)).2.1 dX0_addStones_17 ?_
    refine lv_iload_n hx hb dX0_addStones_18 rfl (lv_at hl 2 rfl) ?_
    refine nv_add F dX0_addStones_19 ?_
    refine nv_iastN F hW (by omega) h2 (by omega) (by decide) dX0_addStones_20 (fun H locs hW => ?_)
    obtain ⟨μ2, eμ2⟩ : ∃ z : ME, z = va_up μ (b + 2) (.inl (xT cx 0, 6, .inl (upd fs j ((nI ((Ls L j) + v)))))) := ⟨_, rfl⟩
    have hW : St cx s μ2 H locs := by rw [eμ2]; exact hW
    have hb_2 := (congrFun eμ2 b).trans ((va_up_ne _ _ (by omega)).trans h0)
    have hb_1_2 := (congrFun eμ2 (b + 1)).trans ((va_up_ne _ _ (by omega)).trans h1)
    have hb_2_2 : μ2 (b + 2) = .inl (xT cx 0, 6, .inl (upd fs j ((nI ((Ls L j) + v))))) := by rw [eμ2, va_up_self]
    have hb_3_2 := (congrFun eμ2 (b + 3)).trans ((va_up_ne _ _ (by omega)).trans h3)
    have hb_4_2 := (congrFun eμ2 (b + 4)).trans ((va_up_ne _ _ (by omega)).trans h4)
    have hb_5_2 := (congrFun eμ2 (b + 5)).trans ((va_up_ne _ _ (by omega)).trans h5)
    have hb_6_2 := (congrFun eμ2 (b + 6)).trans ((va_up_ne _ _ (by omega)).trans h6)
    refine lv_iconst (v := nI 1) hx hb dX0_addStones_21 (by decide) ?_
    exact rt_ze F hr hlk hW (by rw [c_1]; rfl) ⟨by unfold addS; rw [if_pos c_1]; exact ⟨fk, (upd fs j ((nI ((Ls L j) + v)))), fg, fd, fl, fc, hb_2, hb_1_2, hb_2_2, hb_3_2, hb_4_2, hb_5_2, hb_6_2, fun i hi => ⟨(hv i hi).1, upd_va (g := Ls L) (fun i hi => (hv i hi).2.1) i hi, (hv i hi).2.2⟩, hv2⟩, (fun z hz => by rw [eμ2, va_up_ne _ _ (by omega)])⟩ dX0_addStones_22
  · skip
    have c_1 : canA L j v = false := c_1
    refine lv_iconst (v := nI 0) hx hb dX0_addStones_9 (by decide) ?_
    exact rt_ze F hr hlk hW (by rw [c_1]; rfl) ⟨by unfold addS; rw [if_neg (by rw [c_1]; decide)]; exact hL, off_rf⟩ dX0_addStones_10

set_option maxHeartbeats 4000000 in
set_option maxRecDepth 100000 in
theorem c_removeStones {cx : CX} (hI : xI cx) (l : Launch) {μ : ME} {b : Nat} {L : LN} {B : Nat} (hb7 : b + 7 ≤ xN cx) (hL : laneR cx μ b L) (hk : lok L B) (j v : Nat) (hjj : j < 2147483648) (hvv : v < 2147483648) : MT cx l yX0_removeStones cX0_removeStones 3 (some .boolean) 2 43 [.ref (xa cx b), .int (nI j), .int (nI v)] μ (Ei cx (b2 (canS L j v)) (fun μ1 => laneR cx μ1 b (subS L j v) ∧ off b 7 μ μ1)) := by
  refine mt_of hI (by decide) (Nat.le_of_ble_eq_true rfl) ?_
  intro p e s m below meth c ls F hr hlk hW hl
  have hx := F.1.1
  have hb := F.1.2.1
  have hts := F.1.2.2.2.2
  obtain ⟨fk, fs, fg, fd, fl, fc, h0, h1, h2, h3, h4, h5, h6, hv, hv2⟩ := id hL
  have hn6 := hk.1
  have hU := lok_U hk
  have hk4 := hk.2.2.2.1
  have hl : lv_has ls 3 [(0, .ref (xa cx b)), (1, .int (nI j)), (2, .int (nI v))] := hl
  refine lv_aload_n hx hb dX0_removeStones_0 rfl (lv_at hl 0 rfl) ?_
  refine lv_iload_n hx hb dX0_removeStones_1 rfl (lv_at hl 1 rfl) ?_
  refine lv_iload_n hx hb dX0_removeStones_2 rfl (lv_at hl 2 rfl) ?_
  refine cl_ip (cl_run (rest := []) F hW e_X0_103 (c_canRemove hI l hb7 hL hk j v (by omega) (by omega)) ⟨Nat.le_of_ble_eq_true rfl, Nat.le_of_ble_eq_true rfl⟩ (by omega) h0 rfl rfl rfl hl (Nat.le_of_ble_eq_true rfl) dX0_removeStones_3 ⟨Nat.zero_le _, Nat.zero_le _⟩) hW (fun H locs hW => ?_)
  refine nv_bne (tgt := 11) F dX0_removeStones_6 (by decide) (fun c_1 => ?_) (fun c_1 => ?_)
  · skip
    have hc := of_decide_eq_true c_1
    have hj := hc.1
    have hc2 := hc.2.2
    have c_1 : canS L j v = true := c_1
    refine lv_aload_n hx hb dX0_removeStones_11 rfl (lv_at hl 0 rfl) ?_
    refine nv_get F hW (by omega) h0 rfl iX0 1 (by decide) tw_82 rfl dX0_removeStones_12 ?_
    refine lv_iload_n hx hb dX0_removeStones_15 rfl (lv_at hl 1 rfl) ?_
    refine lv_dup2_11 hx hb dX0_removeStones_16 rfl rfl ?_
    refine nv_ialdN (x := ((nI (Ls L j)))) F hW (by omega) h2 (by omega) (by decide) (hv j (by omega)).2.1 dX0_removeStones_17 ?_
    refine lv_iload_n hx hb dX0_removeStones_18 rfl (lv_at hl 2 rfl) ?_
    refine nv_sub F (by omega) dX0_removeStones_19 ?_
    refine nv_iastN F hW (by omega) h2 (by omega) (by decide) dX0_removeStones_20 (fun H locs hW => ?_)
    obtain ⟨μ2, eμ2⟩ : ∃ z : ME, z = va_up μ (b + 2) (.inl (xT cx 0, 6, .inl (upd fs j ((nI ((Ls L j) - v)))))) := ⟨_, rfl⟩
    have hW : St cx s μ2 H locs := by rw [eμ2]; exact hW
    have hb_2 := (congrFun eμ2 b).trans ((va_up_ne _ _ (by omega)).trans h0)
    have hb_1_2 := (congrFun eμ2 (b + 1)).trans ((va_up_ne _ _ (by omega)).trans h1)
    have hb_2_2 : μ2 (b + 2) = .inl (xT cx 0, 6, .inl (upd fs j ((nI ((Ls L j) - v))))) := by rw [eμ2, va_up_self]
    have hb_3_2 := (congrFun eμ2 (b + 3)).trans ((va_up_ne _ _ (by omega)).trans h3)
    have hb_4_2 := (congrFun eμ2 (b + 4)).trans ((va_up_ne _ _ (by omega)).trans h4)
    have hb_5_2 := (congrFun eμ2 (b + 5)).trans ((va_up_ne _ _ (by omega)).trans h5)
    have hb_6_2 := (congrFun eμ2 (b + 6)).trans ((va_up_ne _ _ (by omega)).trans h6)
    refine lv_iconst (v := nI 1) hx hb dX0_removeStones_21 (by decide) ?_
    exact rt_ze F hr hlk hW (by rw [c_1]; rfl) ⟨by unfold subS; rw [if_pos c_1]; exact ⟨fk, (upd fs j ((nI ((Ls L j) - v)))), fg, fd, fl, fc, hb_2, hb_1_2, hb_2_2, hb_3_2, hb_4_2, hb_5_2, hb_6_2, fun i hi => ⟨(hv i hi).1, upd_va (g := Ls L) (fun i hi => (hv i hi).2.1) i hi, (hv i hi).2.2⟩, hv2⟩, (fun z hz => by rw [eμ2, va_up_ne _ _ (by omega)])⟩ dX0_removeStones_22
  · skip
    have c_1 : canS L j v = false := c_1
    refine lv_iconst (v := nI 0) hx hb dX0_removeStones_9 (by decide) ?_
    exact rt_ze F hr hlk hW (by rw [c_1]; rfl) ⟨by unfold subS; rw [if_neg (by rw [c_1]; decide)]; exact hL, off_rf⟩ dX0_removeStones_10

theorem deed_hi {d : Int32} (c : nI 2 < d) : inR d 3 = false := by
  rw [Int32.lt_iff_toInt_lt, nI_toInt (by decide)] at c
  apply decide_eq_false
  omega
theorem deed_in {d : Int32} (c : ¬ d < 0) (e : ¬ nI 2 < d) : inR d 3 = true := by
  rw [Int32.lt_iff_toInt_lt, nI_toInt (by decide)] at e
  rw [Int32.lt_iff_toInt_lt] at c
  have z : (0 : Int32).toInt = 0 := rfl
  apply decide_eq_true
  omega

set_option maxHeartbeats 4000000 in
set_option maxRecDepth 100000 in
theorem c_isDeed {cx : CX} (hI : xI cx) (l : Launch) {μ : ME} (d : Int32) : MT cx l yX0_isDeed cX0_isDeed 1 (some .boolean) 0 0 [.int d] μ (Pi cx μ (b2 (inR d 3))) := by
  refine mt_of hI (by decide) (Nat.le_of_ble_eq_true rfl) ?_
  intro p e s m below meth c ls F hr hlk hW hl
  have hx := F.1.1
  have hb := F.1.2.1
  have hts := F.1.2.2.2.2
  have hl : lv_has ls 1 [(0, .int d)] := hl
  refine lv_iload_n hx hb dX0_isDeed_0 rfl (lv_at hl 0 rfl) ?_
  refine lv_if_lt (tgt := 13) hx hb dX0_isDeed_1 (by decide) (fun c_1 => ?_) (fun c_1 => ?_)
  · skip
    refine lv_iconst (v := nI 0) hx hb dX0_isDeed_13 (by decide) ?_
    exact rt_zp F hr hlk hW (by first | (rw [inR_neg (by assumption)]; rfl) | (rw [deed_hi (by assumption)]; rfl)) rfl dX0_isDeed_14
  · skip
    refine lv_iload_n hx hb dX0_isDeed_4 rfl (lv_at hl 0 rfl) ?_
    refine lv_iconst (v := nI 2) hx hb dX0_isDeed_5 (by decide) ?_
    refine lv_icmp_gt (tgt := 13) hx hb dX0_isDeed_6 (by decide) (fun c_2 => ?_) (fun c_2 => ?_)
    · skip
      refine lv_iconst (v := nI 0) hx hb dX0_isDeed_13 (by decide) ?_
      exact rt_zp F hr hlk hW (by first | (rw [inR_neg (by assumption)]; rfl) | (rw [deed_hi (by assumption)]; rfl)) rfl dX0_isDeed_14
    · skip
      refine lv_iconst (v := nI 1) hx hb dX0_isDeed_9 (by decide) ?_
      refine lv_goto (tgt := 14) hx hb dX0_isDeed_10 (by decide) ?_
      exact rt_zp F hr hlk hW (by rw [deed_in c_1 c_2]; rfl) rfl dX0_isDeed_14

theorem c_isDeedN {cx : CX} (hI : xI cx) (l : Launch) {μ : ME} (d : Nat) (hd : d < 2147483648) : MT cx l yX0_isDeed cX0_isDeed 1 (some .boolean) 0 0 [.int (nI d)] μ (Pi cx μ (b2 (decide (d < 3)))) := by
  rw [← inR_nI hd]
  exact c_isDeed hI l (nI d)

set_option maxHeartbeats 4000000 in
set_option maxRecDepth 100000 in
theorem c_writeDeed {cx : CX} (hI : xI cx) (l : Launch) {μ : ME} {b : Nat} {L : LN} {B : Nat} (hb7 : b + 7 ≤ xN cx) (hL : laneR cx μ b L) (hk : lok L B) (j d : Nat) (hjj : j < 2147483648) (hdd : d < 2147483648) : MT cx l yX0_writeDeed cX0_writeDeed 3 (some .boolean) 1 21 [.ref (xa cx b), .int (nI j), .int (nI d)] μ (Ei cx (b2 (canD L j d)) (fun μ1 => laneR cx μ1 b (setD L j d) ∧ off b 7 μ μ1)) := by
  refine mt_of hI (by decide) (Nat.le_of_ble_eq_true rfl) ?_
  intro p e s m below meth c ls F hr hlk hW hl
  have hx := F.1.1
  have hb := F.1.2.1
  have hts := F.1.2.2.2.2
  obtain ⟨fk, fs, fg, fd, fl, fc, h0, h1, h2, h3, h4, h5, h6, hv, hv2⟩ := id hL
  have hn6 := hk.1
  have hU := lok_U hk
  have hk4 := hk.2.2.2.1
  have hl : lv_has ls 3 [(0, .ref (xa cx b)), (1, .int (nI j)), (2, .int (nI d))] := hl
  refine lv_aload_n hx hb dX0_writeDeed_0 rfl (lv_at hl 0 rfl) ?_
  refine lv_iload_n hx hb dX0_writeDeed_1 rfl (lv_at hl 1 rfl) ?_
  refine cl_ip (cl_run (rest := []) F hW e_X0_63 (c_hasN hI l hb7 hL hk j (by omega)) ⟨Nat.le_of_ble_eq_true rfl, Nat.le_of_ble_eq_true rfl⟩ (by omega) h0 rfl rfl rfl hl (Nat.le_of_ble_eq_true rfl) dX0_writeDeed_2 ⟨Nat.zero_le _, Nat.zero_le _⟩) hW (fun H locs hW => ?_)
  refine nv_beq (tgt := 25) F dX0_writeDeed_5 (by decide) (fun c_1 => ?_) (fun c_1 => ?_)
  · skip
    refine lv_iconst (v := nI 0) hx hb dX0_writeDeed_25 (by decide) ?_
    have hc : canD L j d = false := decide_eq_false (fun q => by first | exact (of_decide_eq_false ‹decide (j < Ln L) = false›) q.1 | exact (of_decide_eq_false ‹decide (d < 3) = false›) q.2.1 | exact q.2.2 (by assumption))
    exact rt_ze F hr hlk hW (by rw [hc]; rfl) ⟨by unfold setD; rw [if_neg (by rw [hc]; decide)]; exact hL, off_rf⟩ dX0_writeDeed_26
  · skip
    have hj := of_decide_eq_true c_1
    refine lv_iload_n hx hb dX0_writeDeed_8 rfl (lv_at hl 2 rfl) ?_
    refine cl_ip (cl_runS (rest := []) F hW e_X0_106 (c_isDeedN hI l d (by omega)) ⟨Nat.le_of_ble_eq_true rfl, Nat.le_of_ble_eq_true rfl⟩ rfl rfl hl (Nat.le_of_ble_eq_true rfl) dX0_writeDeed_9 ⟨Nat.zero_le _, Nat.zero_le _⟩) hW (fun H locs hW => ?_)
    refine nv_beq (tgt := 25) F dX0_writeDeed_12 (by decide) (fun c_2 => ?_) (fun c_2 => ?_)
    · skip
      refine lv_iconst (v := nI 0) hx hb dX0_writeDeed_25 (by decide) ?_
      have hc : canD L j d = false := decide_eq_false (fun q => by first | exact (of_decide_eq_false ‹decide (j < Ln L) = false›) q.1 | exact (of_decide_eq_false ‹decide (d < 3) = false›) q.2.1 | exact q.2.2 (by assumption))
      exact rt_ze F hr hlk hW (by rw [hc]; rfl) ⟨by unfold setD; rw [if_neg (by rw [hc]; decide)]; exact hL, off_rf⟩ dX0_writeDeed_26
    · skip
      have hd3 := of_decide_eq_true c_2
      refine lv_aload_n hx hb dX0_writeDeed_15 rfl (lv_at hl 0 rfl) ?_
      refine nv_get F hW (by omega) h0 rfl iX0 3 (by decide) tw_84 rfl dX0_writeDeed_16 ?_
      refine lv_iload_n hx hb dX0_writeDeed_19 rfl (lv_at hl 1 rfl) ?_
      refine nv_ialdN (x := ((nI (Ld L j)))) F hW (by omega) h4 (by omega) (by decide) (hv j (by omega)).2.2.2 dX0_writeDeed_20 ?_
      refine lv_iload_n hx hb dX0_writeDeed_21 rfl (lv_at hl 2 rfl) ?_
      refine nv_cne (tgt := 27) F (by have := (hk4 j hj).2.2.2; omega) (by omega) dX0_writeDeed_22 (by decide) (fun c_3 => ?_) (fun c_3 => ?_)
      · skip
        refine lv_aload_n hx hb dX0_writeDeed_27 rfl (lv_at hl 0 rfl) ?_
        refine nv_get F hW (by omega) h0 rfl iX0 3 (by decide) tw_84 rfl dX0_writeDeed_28 ?_
        refine lv_iload_n hx hb dX0_writeDeed_31 rfl (lv_at hl 1 rfl) ?_
        refine lv_iload_n hx hb dX0_writeDeed_32 rfl (lv_at hl 2 rfl) ?_
        refine nv_iastN F hW (by omega) h4 (by omega) (by decide) dX0_writeDeed_33 (fun H locs hW => ?_)
        obtain ⟨μ4, eμ4⟩ : ∃ z : ME, z = va_up μ (b + 4) (.inl (xT cx 0, 6, .inl (upd fd j ((nI d))))) := ⟨_, rfl⟩
        have hW : St cx s μ4 H locs := by rw [eμ4]; exact hW
        have hb_4 := (congrFun eμ4 b).trans ((va_up_ne _ _ (by omega)).trans h0)
        have hb_1_4 := (congrFun eμ4 (b + 1)).trans ((va_up_ne _ _ (by omega)).trans h1)
        have hb_2_4 := (congrFun eμ4 (b + 2)).trans ((va_up_ne _ _ (by omega)).trans h2)
        have hb_3_4 := (congrFun eμ4 (b + 3)).trans ((va_up_ne _ _ (by omega)).trans h3)
        have hb_4_4 : μ4 (b + 4) = .inl (xT cx 0, 6, .inl (upd fd j ((nI d)))) := by rw [eμ4, va_up_self]
        have hb_5_4 := (congrFun eμ4 (b + 5)).trans ((va_up_ne _ _ (by omega)).trans h5)
        have hb_6_4 := (congrFun eμ4 (b + 6)).trans ((va_up_ne _ _ (by omega)).trans h6)
        refine lv_iconst (v := nI 1) hx hb dX0_writeDeed_34 (by decide) ?_
        have hc : canD L j d = true := decide_eq_true ⟨hj, hd3, c_3⟩
        exact rt_ze F hr hlk hW (by rw [hc]; rfl) ⟨by unfold setD; rw [if_pos hc]; exact ⟨fk, fs, fg, (upd fd j ((nI d))), fl, fc, hb_4, hb_1_4, hb_2_4, hb_3_4, hb_4_4, hb_5_4, hb_6_4, fun i hi => ⟨(hv i hi).1, (hv i hi).2.1, (hv i hi).2.2.1, upd_va (g := Ld L) (fun i hi => (hv i hi).2.2.2) i hi⟩, hv2⟩, (fun z hz => by rw [eμ4, va_up_ne _ _ (by omega)])⟩ dX0_writeDeed_35
      · skip
        refine lv_iconst (v := nI 0) hx hb dX0_writeDeed_25 (by decide) ?_
        have hc : canD L j d = false := decide_eq_false (fun q => by first | exact (of_decide_eq_false ‹decide (j < Ln L) = false›) q.1 | exact (of_decide_eq_false ‹decide (d < 3) = false›) q.2.1 | exact q.2.2 (by assumption))
        exact rt_ze F hr hlk hW (by rw [hc]; rfl) ⟨by unfold setD; rw [if_neg (by rw [hc]; decide)]; exact hL, off_rf⟩ dX0_writeDeed_26

set_option maxHeartbeats 4000000 in
set_option maxRecDepth 100000 in
theorem c_standUp {cx : CX} (hI : xI cx) (l : Launch) {μ : ME} {b : Nat} {L : LN} {B : Nat} (hb7 : b + 7 ≤ xN cx) (hL : laneR cx μ b L) (hk : lok L B) (j : Nat) (hj : j < Ln L) : MT cx l yX0_standUp cX0_standUp 2 none 0 0 [.ref (xa cx b), .int (nI j)] μ (Qv cx (fun μ1 => laneR cx μ1 b (upL L j) ∧ off b 7 μ μ1)) := by
  refine mt_of hI (by decide) (Nat.le_of_ble_eq_true rfl) ?_
  intro p e s m below meth c ls F hr hlk hW hl
  have hx := F.1.1
  have hb := F.1.2.1
  have hts := F.1.2.2.2.2
  obtain ⟨fk, fs, fg, fd, fl, fc, h0, h1, h2, h3, h4, h5, h6, hv, hv2⟩ := id hL
  have hn6 := hk.1
  have hU := lok_U hk
  have hk4 := hk.2.2.2.1
  have hl : lv_has ls 2 [(0, .ref (xa cx b)), (1, .int (nI j))] := hl
  refine lv_aload_n hx hb dX0_standUp_0 rfl (lv_at hl 0 rfl) ?_
  refine lv_dup hx hb dX0_standUp_1 rfl ?_
  refine nv_get F hW (by omega) h0 rfl iX0 7 (by decide) tw_88 rfl dX0_standUp_2 ?_
  refine lv_iconst (v := nI 1) hx hb dX0_standUp_5 (by decide) ?_
  refine lv_iload_n hx hb dX0_standUp_6 rfl (lv_at hl 1 rfl) ?_
  refine nv_shl F (by omega) (pow2_lt (by omega)) dX0_standUp_7 ?_
  refine nv_top (y := ((nI (2 ^ j)))) (by rw [Nat.one_mul]) ?_
  refine nv_or F dX0_standUp_8 ?_
  refine nv_put F hW (by omega) h0 rfl iX0 tyX0 tyX0_ok nmX0 7 (by decide) tw_88 rfl rfl rfl (Nat.le_of_ble_eq_true rfl) dX0_standUp_9 (fun H locs hW => ?_)
  obtain ⟨μ1, eμ1⟩ : ∃ z : ME, z = va_up μ b (.inr (0, [.ref (xa cx (b + 1)), .ref (xa cx (b + 2)), .ref (xa cx (b + 3)), .ref (xa cx (b + 4)), .ref (xa cx (b + 5)), .ref (xa cx (b + 6)), .int (nI (Ln L)), .int (nI ((LU L) ||| (2 ^ j))), .int (nI (Lh L))])) := ⟨_, rfl⟩
  have hW : St cx s μ1 H locs := by rw [eμ1]; exact hW
  have hb_1 : μ1 b = .inr (0, [.ref (xa cx (b + 1)), .ref (xa cx (b + 2)), .ref (xa cx (b + 3)), .ref (xa cx (b + 4)), .ref (xa cx (b + 5)), .ref (xa cx (b + 6)), .int (nI (Ln L)), .int (nI ((LU L) ||| (2 ^ j))), .int (nI (Lh L))]) := by rw [eμ1, va_up_self]
  have hb_1_1 := (congrFun eμ1 (b + 1)).trans ((va_up_ne _ _ (by omega)).trans h1)
  have hb_2_1 := (congrFun eμ1 (b + 2)).trans ((va_up_ne _ _ (by omega)).trans h2)
  have hb_3_1 := (congrFun eμ1 (b + 3)).trans ((va_up_ne _ _ (by omega)).trans h3)
  have hb_4_1 := (congrFun eμ1 (b + 4)).trans ((va_up_ne _ _ (by omega)).trans h4)
  have hb_5_1 := (congrFun eμ1 (b + 5)).trans ((va_up_ne _ _ (by omega)).trans h5)
  have hb_6_1 := (congrFun eμ1 (b + 6)).trans ((va_up_ne _ _ (by omega)).trans h6)
  refine lv_aload_n hx hb dX0_standUp_12 rfl (lv_at hl 0 rfl) ?_
  refine nv_get F hW (by omega) hb_1 rfl iX0 4 (by decide) tw_85 rfl dX0_standUp_13 ?_
  refine lv_iload_n hx hb dX0_standUp_16 rfl (lv_at hl 1 rfl) ?_
  refine lv_aload_n hx hb dX0_standUp_17 rfl (lv_at hl 0 rfl) ?_
  refine nv_get F hW (by omega) hb_1 rfl iX0 1 (by decide) tw_82 rfl dX0_standUp_18 ?_
  refine lv_iload_n hx hb dX0_standUp_21 rfl (lv_at hl 1 rfl) ?_
  refine nv_ialdN (x := ((nI (Ls L j)))) F hW (by omega) hb_2_1 (by omega) (by decide) (hv j (by omega)).2.1 dX0_standUp_22 ?_
  refine nv_iastN F hW (by omega) hb_5_1 (by omega) (by decide) dX0_standUp_23 (fun H locs hW => ?_)
  obtain ⟨μ2, eμ2⟩ : ∃ z : ME, z = va_up μ1 (b + 5) (.inl (xT cx 0, 6, .inl (upd fl j ((nI (Ls L j)))))) := ⟨_, rfl⟩
  have hW : St cx s μ2 H locs := by rw [eμ2]; exact hW
  have hb_2 := (congrFun eμ2 b).trans ((va_up_ne _ _ (by omega)).trans hb_1)
  have hb_1_2 := (congrFun eμ2 (b + 1)).trans ((va_up_ne _ _ (by omega)).trans hb_1_1)
  have hb_2_2 := (congrFun eμ2 (b + 2)).trans ((va_up_ne _ _ (by omega)).trans hb_2_1)
  have hb_3_2 := (congrFun eμ2 (b + 3)).trans ((va_up_ne _ _ (by omega)).trans hb_3_1)
  have hb_4_2 := (congrFun eμ2 (b + 4)).trans ((va_up_ne _ _ (by omega)).trans hb_4_1)
  have hb_5_2 : μ2 (b + 5) = .inl (xT cx 0, 6, .inl (upd fl j ((nI (Ls L j))))) := by rw [eμ2, va_up_self]
  have hb_6_2 := (congrFun eμ2 (b + 6)).trans ((va_up_ne _ _ (by omega)).trans hb_6_1)
  exact rt_v F hr hlk hW ⟨⟨fk, fs, fg, fd, (upd fl j ((nI (Ls L j)))), fc, hb_2, hb_1_2, hb_2_2, hb_3_2, hb_4_2, hb_5_2, hb_6_2, hv, fun i hi => by
      rw [lst_up hj] at hi
      unfold upd
      show (if i = j then nI (Ls L j) else fl i) = nI (if i = j then Ls L j else Ll L i)
      by_cases e : i = j
      · rw [if_pos e, if_pos e]
      · rw [if_neg e, if_neg e]
        exact hv2 i (by simpa [e] using hi)⟩, (fun z hz => by rw [eμ2, va_up_ne _ _ (by omega)]; rw [eμ1, va_up_ne _ _ (by omega)])⟩ dX0_standUp_24
