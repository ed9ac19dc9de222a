theorem lok_addS {L : LN} {B : Nat} (hk : lok L B) (j v : Nat) : lok (addS L j v) B := by
  unfold addS
  split
  · rename_i h
    have hc := of_decide_eq_true h
    obtain ⟨h1, h2, h3, h4, h5, h6, h7⟩ := hk
    refine ⟨h1, h2, h3, fun i hi => ?_, h5, h6, h7⟩
    have := h4 i hi
    refine ⟨this.1, ?_, this.2.2⟩
    show va_up (Ls L) j (Ls L j + v) i ≤ 99
    unfold va_up
    split
    · exact hc.2.2
    · exact this.2.1
  · exact hk
theorem lok_subS {L : LN} {B : Nat} (hk : lok L B) (j v : Nat) : lok (subS L j v) B := by
  unfold subS
  split
  · rename_i h
    have hc := of_decide_eq_true h
    obtain ⟨h1, h2, h3, h4, h5, h6, h7⟩ := hk
    refine ⟨h1, h2, h3, fun i hi => ?_, h5, h6, h7⟩
    have := h4 i hi
    refine ⟨this.1, ?_, this.2.2⟩
    show va_up (Ls L) j (Ls L j - v) i ≤ 99
    unfold va_up
    split
    · rename_i e
      subst e
      omega
    · exact this.2.1
  · exact hk
theorem lok_setD {L : LN} {B : Nat} (hk : lok L B) (j v : Nat) : lok (setD L j v) B := by
  unfold setD
  split
  · rename_i h
    have hc := of_decide_eq_true h
    obtain ⟨h1, h2, h3, h4, h5, h6, h7⟩ := hk
    refine ⟨h1, h2, h3, fun i hi => ?_, h5, h6, h7⟩
    have := h4 i hi
    refine ⟨this.1, this.2.1, this.2.2.1, ?_⟩
    show va_up (Ld L) j v i ≤ 3
    unfold va_up
    split
    · omega
    · exact this.2.2.2
  · exact hk
theorem lok_emptyL {L : LN} {B : Nat} (hk : lok L B) (q : Nat) : lok (emptyL L q) B := by
  obtain ⟨h1, h2, h3, h4, h5, h6, h7⟩ := hk
  refine ⟨h1, h2, h3, fun i hi => ?_, h5, h6, h7⟩
  have := h4 i hi
  refine ⟨this.1, ?_, this.2.2⟩
  show (if q.testBit i = true then Ls L i else 0) ≤ 99
  split
  · exact this.2.1
  · omega
theorem lok_failL {L : LN} {B : Nat} (hk : lok L B) (q : Nat) : lok (failL L q) B := by
  obtain ⟨h1, h2, h3, h4, h5, h6, h7⟩ := hk
  refine ⟨h1, h2, h3, fun i hi => ?_, h5, h6, h7⟩
  have := h4 i hi
  refine ⟨this.1, this.2.1, this.2.2.1, ?_⟩
  show (if q.testBit i = true then 3 else Ld L i) ≤ 3
  split
  · omega
  · exact this.2.2.2
theorem lsum_up {f : Nat → Nat} {j v : Nat} (hj : j < 6) (hv : v ≤ 99) : va_up f j v 0 + va_up f j v 1 + va_up f j v 2 + va_up f j v 3 + va_up f j v 4 + va_up f j v 5 ≤ f 0 + f 1 + f 2 + f 3 + f 4 + f 5 + 99 := by
  unfold va_up
  rcases (show j = 0 ∨ j = 1 ∨ j = 2 ∨ j = 3 ∨ j = 4 ∨ j = 5 by omega) with rfl | rfl | rfl | rfl | rfl | rfl <;> simp <;> omega
theorem or_lt {U j n : Nat} (h : U < 2 ^ n) (hj : j < n) : U ||| 2 ^ j < 2 ^ n := Nat.or_lt_two_pow h (Nat.pow_lt_pow_right (by decide) hj)
theorem lok_raiseL {L : LN} {B : Nat} (hk : lok L B) (j : Nat) : lok (raiseL L j) (B + 600) := by
  unfold raiseL
  split
  · rename_i h
    unfold canR at h
    simp only [Bool.and_eq_true, decide_eq_true_eq] at h
    have hj := h.1
    obtain ⟨h1, h2, h3, h4, h5, h6, h7⟩ := hk
    generalize hM : ((Ln L, (if Lk L j = 4 then va_up (Lk L) j 0 else Lk L), Ls L, Lg L, Ld L, Ll L, LU L, Lh L) : LN) = M
    have e1 : Ln M = Ln L := by rw [← hM]
    have e2 : lst M = lst L := by rw [← hM]; rfl
    refine ⟨by show Ln M ≤ 6; omega, ?_, ?_, fun i hi => ?_, fun i hi => ?_, fun i hi => ?_, ?_⟩
    · show LU M ||| 2 ^ j < 2 ^ Ln M
      rw [← hM]
      exact or_lt h2 hj
    · show Lh M ≤ _
      rw [← hM]
      show Lh L ≤ _
      omega
    · have := h4 i (by rw [← e1]; exact hi)
      rw [← hM]
      refine ⟨?_, this.2⟩
      show (if Lk L j = 4 then va_up (Lk L) j 0 else Lk L) i ≤ 4
      split
      · unfold va_up
        split
        · omega
        · exact this.1
      · exact this.1
    · rw [lst_up (by rw [e1]; exact hj), e2] at hi
      show Lk M i ≠ 4
      rw [← hM]
      show (if Lk L j = 4 then va_up (Lk L) j 0 else Lk L) i ≠ 4
      by_cases e : i = j
      · subst e
        split
        · rw [va_up_self]; omega
        · assumption
      · have hl : lst L i = true := by simpa [e] using hi
        split
        · rw [va_up_ne _ _ e]; exact h5 i hl
        · exact h5 i hl
    · rw [lst_up (by rw [e1]; exact hj), e2] at hi
      show va_up (Ll M) j (Ls M j) i = 0
      rw [← hM]
      show va_up (Ll L) j (Ls L j) i = 0
      by_cases e : i = j
      · simp [e] at hi
      · rw [va_up_ne _ _ e]
        exact h6 i (by simpa [e] using hi)
    · show va_up (Ll M) j (Ls M j) 0 + va_up (Ll M) j (Ls M j) 1 + va_up (Ll M) j (Ls M j) 2 + va_up (Ll M) j (Ls M j) 3 + va_up (Ll M) j (Ls M j) 4 + va_up (Ll M) j (Ls M j) 5 ≤ B + 600
      rw [← hM]
      have := lsum_up (f := Ll L) (j := j) (v := Ls L j) (by omega) (h4 j hj).2.1
      show va_up (Ll L) j (Ls L j) 0 + va_up (Ll L) j (Ls L j) 1 + va_up (Ll L) j (Ls L j) 2 + va_up (Ll L) j (Ls L j) 3 + va_up (Ll L) j (Ls L j) 4 + va_up (Ll L) j (Ls L j) 5 ≤ B + 600
      omega
  · exact lok_mono hk (by omega)

theorem va_self {α : Type} (f : Nat → α) (k : Nat) : va_up f k (f k) = f := by
  funext j
  unfold va_up
  split
  · rename_i h; rw [h]
  · rfl

theorem lok_k0 {L : LN} {B : Nat} (hk : lok L B) (j : Nat) : lok (Ln L, va_up (Lk L) j 0, Ls L, Lg L, Ld L, Ll L, LU L, Lh L) B := by
  obtain ⟨h1, h2, h3, h4, h5, h6, h7⟩ := hk
  refine ⟨h1, h2, h3, fun i hi => ?_, fun i hi => ?_, h6, h7⟩
  · have := h4 i hi
    refine ⟨?_, this.2⟩
    show va_up (Lk L) j 0 i ≤ 4
    unfold va_up
    split
    · omega
    · exact this.1
  · show va_up (Lk L) j 0 i ≠ 4
    unfold va_up
    split
    · omega
    · exact h5 i hi

set_option maxHeartbeats 4000000 in
set_option maxRecDepth 100000 in
theorem c_raise {cx : CX} (hI : xI cx) (l : Launch) {μ : ME} {b : Nat} {L : LN} {B : Nat} (hb7 : b + 7 ≤ xN cx) (hL : laneR cx μ b L) (hk : lok L B) (j : Nat) (hjj : j < 2147483648) : MT cx l yX0_raise cX0_raise 2 (some .boolean) 1 21 [.ref (xa cx b), .int (nI j)] μ (Ei cx (b2 (canR L j)) (fun μ1 => laneR cx μ1 b (raiseL L j) ∧ off b 7 μ μ1)) := by
  refine mt_of hI (by decide) (Nat.le_of_ble_eq_true rfl) ?_
  intro p e s m below meth c ls F hr hlk hW hl
  have hx := F.1.1
  have hb := F.1.2.1
  have hts := F.1.2.2.2.2
  obtain ⟨fk, fs, fg, fd, fl, fc, h0, h1, h2, h3, h4, h5, h6, hv, hv2⟩ := id hL
  have hn6 := hk.1
  have hU := lok_U hk
  have hk4 := hk.2.2.2.1
  have hl : lv_has ls 2 [(0, .ref (xa cx b)), (1, .int (nI j))] := hl
  refine lv_aload_n hx hb dX0_raise_0 rfl (lv_at hl 0 rfl) ?_
  refine lv_iload_n hx hb dX0_raise_1 rfl (lv_at hl 1 rfl) ?_
  refine cl_ip (cl_run (rest := []) F hW e_X0_63 (c_hasN hI l hb7 hL hk j (by omega)) ⟨Nat.le_of_ble_eq_true rfl, Nat.le_of_ble_eq_true rfl⟩ (by omega) h0 rfl rfl rfl hl (Nat.le_of_ble_eq_true rfl) dX0_raise_2 ⟨Nat.zero_le _, Nat.zero_le _⟩) hW (fun H locs hW => ?_)
  refine nv_beq (tgt := 16) F dX0_raise_5 (by decide) (fun c_1 => ?_) (fun c_1 => ?_)
  · skip
    refine lv_iconst (v := nI 0) hx hb dX0_raise_16 (by decide) ?_
    have hcr : canR L j = false := by unfold canR; first | (rw [‹decide (j < Ln L) = false›]; rfl) | (rw [‹lst L j = true›]; simp)
    exact rt_ze F hr hlk hW (by rw [hcr]; rfl) ⟨by unfold raiseL; rw [if_neg (by rw [hcr]; decide)]; exact hL, off_rf⟩ dX0_raise_17
  · skip
    have hj := of_decide_eq_true c_1
    refine lv_aload_n hx hb dX0_raise_8 rfl (lv_at hl 0 rfl) ?_
    refine lv_iload_n hx hb dX0_raise_9 rfl (lv_at hl 1 rfl) ?_
    refine cl_ip (cl_run (rest := []) F hW e_X0_67 (c_standsN hI l hb7 hL hk j (by omega)) ⟨Nat.le_of_ble_eq_true rfl, Nat.le_of_ble_eq_true rfl⟩ (by omega) h0 rfl rfl rfl hl (Nat.le_of_ble_eq_true rfl) dX0_raise_10 ⟨Nat.zero_le _, Nat.zero_le _⟩) hW (fun H locs hW => ?_)
    refine nv_beq (tgt := 18) F dX0_raise_13 (by decide) (fun c_2 => ?_) (fun c_2 => ?_)
    · skip
      refine lv_aload_n hx hb dX0_raise_18 rfl (lv_at hl 0 rfl) ?_
      refine nv_get F hW (by omega) h0 rfl iX0 0 (by decide) tw_81 rfl dX0_raise_19 ?_
      refine lv_iload_n hx hb dX0_raise_22 rfl (lv_at hl 1 rfl) ?_
      refine nv_ialdN (x := ((nI (Lk L j)))) F hW (by omega) h1 (by omega) (by decide) (hv j (by omega)).1 dX0_raise_23 ?_
      refine lv_iconst (v := nI 4) hx hb dX0_raise_24 (by decide) ?_
      refine nv_cne (tgt := 35) F (by have := (hk4 j hj).1; omega) (by omega) dX0_raise_25 (by decide) (fun c_3 => ?_) (fun c_3 => ?_)
      · skip
        have hcr : canR L j = true := by unfold canR; rw [decide_eq_true hj, c_2]; rfl
        refine lv_aload_n hx hb dX0_raise_35 rfl (lv_at hl 0 rfl) ?_
        refine lv_iload_n hx hb dX0_raise_36 rfl (lv_at hl 1 rfl) ?_
        have hkm := lok_k0 hk j
        refine cl_v (cl_run (rest := []) F hW e_X0_59 (c_standUp hI l hb7 hL hk j hj) ⟨Nat.le_of_ble_eq_true rfl, Nat.le_of_ble_eq_true rfl⟩ (by omega) h0 rfl rfl rfl hl (Nat.le_of_ble_eq_true rfl) dX0_raise_37 ⟨Nat.zero_le _, Nat.zero_le _⟩) hW (fun μ4 H locs q_4 hW => ?_)
        obtain ⟨hLz, hoz⟩ := q_4
        refine lv_iconst (v := nI 1) hx hb dX0_raise_40 (by decide) ?_
        exact rt_ze F hr hlk hW (by rw [hcr]; rfl) ⟨by unfold raiseL; rw [if_pos hcr, if_neg c_3]; exact hLz, (fun z hz => by rw [hoz z (by omega)])⟩ dX0_raise_41
      · skip
        have hcr : canR L j = true := by unfold canR; rw [decide_eq_true hj, c_2]; rfl
        refine lv_aload_n hx hb dX0_raise_28 rfl (lv_at hl 0 rfl) ?_
        refine nv_get F hW (by omega) h0 rfl iX0 0 (by decide) tw_81 rfl dX0_raise_29 ?_
        refine lv_iload_n hx hb dX0_raise_32 rfl (lv_at hl 1 rfl) ?_
        refine lv_iconst (v := nI 0) hx hb dX0_raise_33 (by decide) ?_
        refine nv_iastN F hW (by omega) h1 (by omega) (by decide) dX0_raise_34 (fun H locs hW => ?_)
        obtain ⟨μ5, eμ5⟩ : ∃ z : ME, z = va_up μ (b + 1) (.inl (xT cx 0, 6, .inl (upd fk j ((nI 0))))) := ⟨_, rfl⟩
        have hW : St cx s μ5 H locs := by rw [eμ5]; exact hW
        have hb_5 := (congrFun eμ5 b).trans ((va_up_ne _ _ (by omega)).trans h0)
        have hb_1_5 : μ5 (b + 1) = .inl (xT cx 0, 6, .inl (upd fk j ((nI 0)))) := by rw [eμ5, va_up_self]
        have hb_2_5 := (congrFun eμ5 (b + 2)).trans ((va_up_ne _ _ (by omega)).trans h2)
        have hb_3_5 := (congrFun eμ5 (b + 3)).trans ((va_up_ne _ _ (by omega)).trans h3)
        have hb_4_5 := (congrFun eμ5 (b + 4)).trans ((va_up_ne _ _ (by omega)).trans h4)
        have hb_5_5 := (congrFun eμ5 (b + 5)).trans ((va_up_ne _ _ (by omega)).trans h5)
        have hb_6_5 := (congrFun eμ5 (b + 6)).trans ((va_up_ne _ _ (by omega)).trans h6)
        refine lv_aload_n hx hb dX0_raise_35 rfl (lv_at hl 0 rfl) ?_
        refine lv_iload_n hx hb dX0_raise_36 rfl (lv_at hl 1 rfl) ?_
        have hkm := lok_k0 hk j
        have hLm : laneR cx μ5 b (Ln L, va_up (Lk L) j 0, Ls L, Lg L, Ld L, Ll L, LU L, Lh L) := ⟨(upd fk j ((nI 0))), fs, fg, fd, fl, fc, hb_5, hb_1_5, hb_2_5, hb_3_5, hb_4_5, hb_5_5, hb_6_5, fun i hi => ⟨upd_va (g := Lk L) (fun i hi => (hv i hi).1) i hi, (hv i hi).2⟩, hv2⟩
        refine cl_v (cl_run (rest := []) F hW e_X0_59 (c_standUp hI l hb7 hLm hkm j hj) ⟨Nat.le_of_ble_eq_true rfl, Nat.le_of_ble_eq_true rfl⟩ (by omega) hb_5 rfl rfl rfl hl (Nat.le_of_ble_eq_true rfl) dX0_raise_37 ⟨Nat.zero_le _, Nat.zero_le _⟩) hW (fun μ6 H locs q_6 hW => ?_)
        obtain ⟨hLz, hoz⟩ := q_6
        refine lv_iconst (v := nI 1) hx hb dX0_raise_40 (by decide) ?_
        exact rt_ze F hr hlk hW (by rw [hcr]; rfl) ⟨by unfold raiseL; rw [if_pos hcr, if_pos c_3]; exact hLz, (fun z hz => by rw [hoz z (by omega)]; rw [eμ5, va_up_ne _ _ (by omega)])⟩ dX0_raise_41
    · skip
      refine lv_iconst (v := nI 0) hx hb dX0_raise_16 (by decide) ?_
      have hcr : canR L j = false := by unfold canR; first | (rw [‹decide (j < Ln L) = false›]; rfl) | (rw [‹lst L j = true›]; simp)
      exact rt_ze F hr hlk hW (by rw [hcr]; rfl) ⟨by unfold raiseL; rw [if_neg (by rw [hcr]; decide)]; exact hL, off_rf⟩ dX0_raise_17

set_option maxHeartbeats 4000000 in
set_option maxRecDepth 100000 in
theorem c_emptyAllBut {cx : CX} (hI : xI cx) (l : Launch) {μ : ME} {b : Nat} {L : LN} {B : Nat} (hb7 : b + 7 ≤ xN cx) (hL : laneR cx μ b L) (hk : lok L B) (bits : Nat) (hbits : bits < 64) : MT cx l yX0_emptyAllBut cX0_emptyAllBut 3 none 0 0 [.ref (xa cx b), .int (nI bits)] μ (Qv cx (fun μ1 => laneR cx μ1 b (emptyL L bits) ∧ off b 7 μ μ1)) := by
  refine mt_of hI (by decide) (Nat.le_of_ble_eq_true rfl) ?_
  intro p e s m below meth c ls F hr hlk hW hl
  have hx := F.1.1
  have hb := F.1.2.1
  have hts := F.1.2.2.2.2
  obtain ⟨fk, fs, fg, fd, fl, fc, h0, h1, h2, h3, h4, h5, h6, hv, hv2⟩ := id hL
  have hn6 := hk.1
  have hU := lok_U hk
  have hk4 := hk.2.2.2.1
  have hl : lv_has ls 3 [(0, .ref (xa cx b)), (1, .int (nI bits))] := hl
  refine lv_iconst (v := nI 0) hx hb dX0_emptyAllBut_0 (by decide) ?_
  refine lv_istore_n (lv' := [(2, .int (nI 0)), (0, .ref (xa cx b)), (1, .int (nI bits))]) hx hb dX0_emptyAllBut_1 rfl hl (by decide) rfl (fun ls hl => ?_)
  have LOOP : ∀ (d i : Nat) (g : Nat → Int32) (μ1 : ME) (H : Heap) (locs : List Loc) (ls : Array Slot), i + d = Ln L → (μ1 = va_up μ (b + 2) (.inl (xT cx 0, 6, .inl g))) → (∀ t, t < Ln L → g t = nI (if t < i then (if bits.testBit t then Ls L t else 0) else Ls L t)) → St cx s μ1 H locs → lv_has ls 3 [(0, .ref (xa cx b)), (1, .int (nI bits)), (2, .int (nI i))] → W p l e { frames := 0, cells := 0, slots := 0, locals := 0 } s m [.ref (xa cx b), .int (nI bits)].toArray below meth c H locs 0 0 (MQ below (Qv cx (fun μ1 => laneR cx μ1 b (emptyL L bits) ∧ off b 7 μ μ1)) [.ref (xa cx b), .int (nI bits)].toArray s 0 0 (xA cx)) (F0 m 2 ls []) := by
    intro d
    induction d with
    | zero =>
      intro i g μ1 H locs ls hid hm hg hW hl
      have k2 := (congrFun hm (b + 2)).trans (va_up_self _ _ _)
      have k0 := (congrFun hm (b)).trans ((va_up_ne _ _ (by omega)).trans h0)
      have k1 := (congrFun hm (b + 1)).trans ((va_up_ne _ _ (by omega)).trans h1)
      have k3 := (congrFun hm (b + 3)).trans ((va_up_ne _ _ (by omega)).trans h3)
      have k4 := (congrFun hm (b + 4)).trans ((va_up_ne _ _ (by omega)).trans h4)
      have k5 := (congrFun hm (b + 5)).trans ((va_up_ne _ _ (by omega)).trans h5)
      have k6 := (congrFun hm (b + 6)).trans ((va_up_ne _ _ (by omega)).trans h6)
      refine lv_iload_n hx hb dX0_emptyAllBut_2 rfl (lv_at hl 2 rfl) ?_
      refine lv_aload_n hx hb dX0_emptyAllBut_3 rfl (lv_at hl 0 rfl) ?_
      refine nv_get F hW (by omega) k0 rfl iX0 6 (by decide) tw_87 rfl dX0_emptyAllBut_4 ?_
      refine nv_cge (tgt := 31) F (by omega) (by omega) dX0_emptyAllBut_7 (by decide) (fun c_1 => ?_) (fun c_1 => ?_)
      · skip
        have hin : i = Ln L := by omega
        exact rt_v F hr hlk hW ⟨⟨fk, g, fg, fd, fl, fc, k0, k1, k2, k3, k4, k5, k6, fun q hq => ⟨(hv q hq).1, (hg q hq).trans (by rw [if_pos (show q < i from by rw [hin]; exact hq)]; rfl), (hv q hq).2.2⟩, hv2⟩, fun z hz => by rw [hm, va_up_ne _ _ (by omega)]⟩ dX0_emptyAllBut_31
      · skip
        exact absurd c_1 (by omega)
    | succ d ih =>
      intro i g μ1 H locs ls hid hm hg hW hl
      have k2 := (congrFun hm (b + 2)).trans (va_up_self _ _ _)
      have k0 := (congrFun hm (b)).trans ((va_up_ne _ _ (by omega)).trans h0)
      have k1 := (congrFun hm (b + 1)).trans ((va_up_ne _ _ (by omega)).trans h1)
      have k3 := (congrFun hm (b + 3)).trans ((va_up_ne _ _ (by omega)).trans h3)
      have k4 := (congrFun hm (b + 4)).trans ((va_up_ne _ _ (by omega)).trans h4)
      have k5 := (congrFun hm (b + 5)).trans ((va_up_ne _ _ (by omega)).trans h5)
      have k6 := (congrFun hm (b + 6)).trans ((va_up_ne _ _ (by omega)).trans h6)
      refine lv_iload_n hx hb dX0_emptyAllBut_2 rfl (lv_at hl 2 rfl) ?_
      refine lv_aload_n hx hb dX0_emptyAllBut_3 rfl (lv_at hl 0 rfl) ?_
      refine nv_get F hW (by omega) k0 rfl iX0 6 (by decide) tw_87 rfl dX0_emptyAllBut_4 ?_
      refine nv_cge (tgt := 31) F (by omega) (by omega) dX0_emptyAllBut_7 (by decide) (fun c_2 => ?_) (fun c_2 => ?_)
      · skip
        exact absurd c_2 (by omega)
      · skip
        refine lv_iload_n hx hb dX0_emptyAllBut_10 rfl (lv_at hl 1 rfl) ?_
        refine lv_iload_n hx hb dX0_emptyAllBut_11 rfl (lv_at hl 2 rfl) ?_
        refine nv_shr F (by omega) (by omega) dX0_emptyAllBut_12 ?_
        refine lv_iconst (v := nI 1) hx hb dX0_emptyAllBut_13 (by decide) ?_
        refine nv_and F dX0_emptyAllBut_14 ?_
        refine nv_top (y := ((b2 (bits.testBit i)))) (bit_b2 _ _) ?_
        refine nv_bne (tgt := 25) F dX0_emptyAllBut_15 (by decide) (fun c_3 => ?_) (fun c_3 => ?_)
        · skip
          refine lv_iinc (v := ((nI (i + 1)))) (lv' := [(2, .int (nI (i + 1))), (0, .ref (xa cx b)), (1, .int (nI bits))]) hx hb dX0_emptyAllBut_25 hl (k := 2) rfl (nI_add _ _) (by decide) rfl (fun ls hl => ?_)
          refine lv_goto (tgt := 2) hx hb dX0_emptyAllBut_28 (by decide) ?_
          exact ih (i + 1) g μ1 _ _ _ (by omega) hm (fun t ht => by
              rw [hg t ht]
              by_cases e : t = i
              · subst e; rw [if_neg (show ¬ t < t by omega), if_pos (show t < t + 1 by omega), c_3]; rfl
              · by_cases e2 : t < i
                · rw [if_pos e2, if_pos (show t < i + 1 by omega)]
                · rw [if_neg e2, if_neg (show ¬ t < i + 1 by omega)]) hW (lv_sub hl [1, 2, 0] rfl)
        · skip
          refine lv_aload_n hx hb dX0_emptyAllBut_18 rfl (lv_at hl 0 rfl) ?_
          refine nv_get F hW (by omega) k0 rfl iX0 1 (by decide) tw_82 rfl dX0_emptyAllBut_19 ?_
          refine lv_iload_n hx hb dX0_emptyAllBut_22 rfl (lv_at hl 2 rfl) ?_
          refine lv_iconst (v := nI 0) hx hb dX0_emptyAllBut_23 (by decide) ?_
          refine nv_iastN F hW (by omega) k2 (by omega) (by decide) dX0_emptyAllBut_24 (fun H locs hW => ?_)
          obtain ⟨μ4, eμ4⟩ : ∃ z : ME, z = va_up μ1 (b + 2) (.inl (xT cx 0, 6, .inl (upd g i ((nI 0))))) := ⟨_, rfl⟩
          have hW : St cx s μ4 H locs := by rw [eμ4]; exact hW
          have hb_4 := (congrFun eμ4 b).trans ((va_up_ne _ _ (by omega)).trans k0)
          have hb_1_4 := (congrFun eμ4 (b + 1)).trans ((va_up_ne _ _ (by omega)).trans k1)
          have hb_2_4 : μ4 (b + 2) = .inl (xT cx 0, 6, .inl (upd g i ((nI 0)))) := by rw [eμ4, va_up_self]
          have hb_3_4 := (congrFun eμ4 (b + 3)).trans ((va_up_ne _ _ (by omega)).trans k3)
          have hb_4_4 := (congrFun eμ4 (b + 4)).trans ((va_up_ne _ _ (by omega)).trans k4)
          have hb_5_4 := (congrFun eμ4 (b + 5)).trans ((va_up_ne _ _ (by omega)).trans k5)
          have hb_6_4 := (congrFun eμ4 (b + 6)).trans ((va_up_ne _ _ (by omega)).trans k6)
          refine lv_iinc (v := ((nI (i + 1)))) (lv' := [(2, .int (nI (i + 1))), (0, .ref (xa cx b)), (1, .int (nI bits))]) hx hb dX0_emptyAllBut_25 hl (k := 2) rfl (nI_add _ _) (by decide) rfl (fun ls hl => ?_)
          refine lv_goto (tgt := 2) hx hb dX0_emptyAllBut_28 (by decide) ?_
          exact ih (i + 1) (upd g i ((nI 0))) μ4 _ _ _ (by omega) (by rw [eμ4, hm, bx_uu]) (fun t ht => by
              show upd g i _ t = _
              unfold upd
              by_cases e : t = i
              · subst e; rw [if_pos rfl, if_pos (show t < t + 1 by omega), c_3]; rfl
              · rw [if_neg e, hg t ht]
                by_cases e2 : t < i
                · rw [if_pos e2, if_pos (show t < i + 1 by omega)]
                · rw [if_neg e2, if_neg (show ¬ t < i + 1 by omega)]) hW (lv_sub hl [1, 2, 0] rfl)
  exact LOOP (Ln L) 0 fs μ _ _ _ (by omega) (by rw [← h2]; exact (va_self _ _).symm) (fun t ht => by rw [if_neg (by omega)]; exact (hv t ht).2.1) hW (lv_sub hl [1, 2, 0] rfl)

set_option maxHeartbeats 4000000 in
set_option maxRecDepth 100000 in
theorem c_failDeeds {cx : CX} (hI : xI cx) (l : Launch) {μ : ME} {b : Nat} {L : LN} {B : Nat} (hb7 : b + 7 ≤ xN cx) (hL : laneR cx μ b L) (hk : lok L B) (bits : Nat) (hbits : bits < 64) : MT cx l yX0_failDeeds cX0_failDeeds 3 none 0 0 [.ref (xa cx b), .int (nI bits)] μ (Qv cx (fun μ1 => laneR cx μ1 b (failL L bits) ∧ off b 7 μ μ1)) := by
  refine mt_of hI (by decide) (Nat.le_of_ble_eq_true rfl) ?_
  intro p e s m below meth c ls F hr hlk hW hl
  have hx := F.1.1
  have hb := F.1.2.1
  have hts := F.1.2.2.2.2
  obtain ⟨fk, fs, fg, fd, fl, fc, h0, h1, h2, h3, h4, h5, h6, hv, hv2⟩ := id hL
  have hn6 := hk.1
  have hU := lok_U hk
  have hk4 := hk.2.2.2.1
  have hl : lv_has ls 3 [(0, .ref (xa cx b)), (1, .int (nI bits))] := hl
  refine lv_iconst (v := nI 0) hx hb dX0_failDeeds_0 (by decide) ?_
  refine lv_istore_n (lv' := [(2, .int (nI 0)), (0, .ref (xa cx b)), (1, .int (nI bits))]) hx hb dX0_failDeeds_1 rfl hl (by decide) rfl (fun ls hl => ?_)
  have LOOP : ∀ (d i : Nat) (g : Nat → Int32) (μ1 : ME) (H : Heap) (locs : List Loc) (ls : Array Slot), i + d = Ln L → (μ1 = va_up μ (b + 4) (.inl (xT cx 0, 6, .inl g))) → (∀ t, t < Ln L → g t = nI (if t < i then (if bits.testBit t then 3 else Ld L t) else Ld L t)) → St cx s μ1 H locs → lv_has ls 3 [(0, .ref (xa cx b)), (1, .int (nI bits)), (2, .int (nI i))] → W p l e { frames := 0, cells := 0, slots := 0, locals := 0 } s m [.ref (xa cx b), .int (nI bits)].toArray below meth c H locs 0 0 (MQ below (Qv cx (fun μ1 => laneR cx μ1 b (failL L bits) ∧ off b 7 μ μ1)) [.ref (xa cx b), .int (nI bits)].toArray s 0 0 (xA cx)) (F0 m 2 ls []) := by
    intro d
    induction d with
    | zero =>
      intro i g μ1 H locs ls hid hm hg hW hl
      have k4 := (congrFun hm (b + 4)).trans (va_up_self _ _ _)
      have k0 := (congrFun hm (b)).trans ((va_up_ne _ _ (by omega)).trans h0)
      have k1 := (congrFun hm (b + 1)).trans ((va_up_ne _ _ (by omega)).trans h1)
      have k2 := (congrFun hm (b + 2)).trans ((va_up_ne _ _ (by omega)).trans h2)
      have k3 := (congrFun hm (b + 3)).trans ((va_up_ne _ _ (by omega)).trans h3)
      have k5 := (congrFun hm (b + 5)).trans ((va_up_ne _ _ (by omega)).trans h5)
      have k6 := (congrFun hm (b + 6)).trans ((va_up_ne _ _ (by omega)).trans h6)
      refine lv_iload_n hx hb dX0_failDeeds_2 rfl (lv_at hl 2 rfl) ?_
      refine lv_aload_n hx hb dX0_failDeeds_3 rfl (lv_at hl 0 rfl) ?_
      refine nv_get F hW (by omega) k0 rfl iX0 6 (by decide) tw_87 rfl dX0_failDeeds_4 ?_
      refine nv_cge (tgt := 32) F (by omega) (by omega) dX0_failDeeds_7 (by decide) (fun c_1 => ?_) (fun c_1 => ?_)
      · skip
        have hin : i = Ln L := by omega
        exact rt_v F hr hlk hW ⟨⟨fk, fs, fg, g, fl, fc, k0, k1, k2, k3, k4, k5, k6, fun q hq => ⟨(hv q hq).1, (hv q hq).2.1, (hv q hq).2.2.1, (hg q hq).trans (by rw [if_pos (show q < i from by rw [hin]; exact hq)]; rfl)⟩, hv2⟩, fun z hz => by rw [hm, va_up_ne _ _ (by omega)]⟩ dX0_failDeeds_32
      · skip
        exact absurd c_1 (by omega)
    | succ d ih =>
      intro i g μ1 H locs ls hid hm hg hW hl
      have k4 := (congrFun hm (b + 4)).trans (va_up_self _ _ _)
      have k0 := (congrFun hm (b)).trans ((va_up_ne _ _ (by omega)).trans h0)
      have k1 := (congrFun hm (b + 1)).trans ((va_up_ne _ _ (by omega)).trans h1)
      have k2 := (congrFun hm (b + 2)).trans ((va_up_ne _ _ (by omega)).trans h2)
      have k3 := (congrFun hm (b + 3)).trans ((va_up_ne _ _ (by omega)).trans h3)
      have k5 := (congrFun hm (b + 5)).trans ((va_up_ne _ _ (by omega)).trans h5)
      have k6 := (congrFun hm (b + 6)).trans ((va_up_ne _ _ (by omega)).trans h6)
      refine lv_iload_n hx hb dX0_failDeeds_2 rfl (lv_at hl 2 rfl) ?_
      refine lv_aload_n hx hb dX0_failDeeds_3 rfl (lv_at hl 0 rfl) ?_
      refine nv_get F hW (by omega) k0 rfl iX0 6 (by decide) tw_87 rfl dX0_failDeeds_4 ?_
      refine nv_cge (tgt := 32) F (by omega) (by omega) dX0_failDeeds_7 (by decide) (fun c_2 => ?_) (fun c_2 => ?_)
      · skip
        exact absurd c_2 (by omega)
      · skip
        refine lv_iload_n hx hb dX0_failDeeds_10 rfl (lv_at hl 1 rfl) ?_
        refine lv_iload_n hx hb dX0_failDeeds_11 rfl (lv_at hl 2 rfl) ?_
        refine nv_shr F (by omega) (by omega) dX0_failDeeds_12 ?_
        refine lv_iconst (v := nI 1) hx hb dX0_failDeeds_13 (by decide) ?_
        refine nv_and F dX0_failDeeds_14 ?_
        refine nv_top (y := ((b2 (bits.testBit i)))) (bit_b2 _ _) ?_
        refine lv_iconst (v := nI 1) hx hb dX0_failDeeds_15 (by decide) ?_
        refine nv_b1ne (tgt := 26) F dX0_failDeeds_16 (by decide) (fun c_3 => ?_) (fun c_3 => ?_)
        · skip
          refine lv_iinc (v := ((nI (i + 1)))) (lv' := [(2, .int (nI (i + 1))), (0, .ref (xa cx b)), (1, .int (nI bits))]) hx hb dX0_failDeeds_26 hl (k := 2) rfl (nI_add _ _) (by decide) rfl (fun ls hl => ?_)
          refine lv_goto (tgt := 2) hx hb dX0_failDeeds_29 (by decide) ?_
          exact ih (i + 1) g μ1 _ _ _ (by omega) hm (fun t ht => by
              rw [hg t ht]
              by_cases e : t = i
              · subst e; rw [if_neg (show ¬ t < t by omega), if_pos (show t < t + 1 by omega), c_3]; rfl
              · by_cases e2 : t < i
                · rw [if_pos e2, if_pos (show t < i + 1 by omega)]
                · rw [if_neg e2, if_neg (show ¬ t < i + 1 by omega)]) hW (lv_sub hl [1, 2, 0] rfl)
        · skip
          refine lv_aload_n hx hb dX0_failDeeds_19 rfl (lv_at hl 0 rfl) ?_
          refine nv_get F hW (by omega) k0 rfl iX0 3 (by decide) tw_84 rfl dX0_failDeeds_20 ?_
          refine lv_iload_n hx hb dX0_failDeeds_23 rfl (lv_at hl 2 rfl) ?_
          refine lv_iconst (v := nI 3) hx hb dX0_failDeeds_24 (by decide) ?_
          refine nv_iastN F hW (by omega) k4 (by omega) (by decide) dX0_failDeeds_25 (fun H locs hW => ?_)
          obtain ⟨μ4, eμ4⟩ : ∃ z : ME, z = va_up μ1 (b + 4) (.inl (xT cx 0, 6, .inl (upd g i ((nI 3))))) := ⟨_, rfl⟩
          have hW : St cx s μ4 H locs := by rw [eμ4]; exact hW
          have hb_4 := (congrFun eμ4 b).trans ((va_up_ne _ _ (by omega)).trans k0)
          have hb_1_4 := (congrFun eμ4 (b + 1)).trans ((va_up_ne _ _ (by omega)).trans k1)
          have hb_2_4 := (congrFun eμ4 (b + 2)).trans ((va_up_ne _ _ (by omega)).trans k2)
          have hb_3_4 := (congrFun eμ4 (b + 3)).trans ((va_up_ne _ _ (by omega)).trans k3)
          have hb_4_4 : μ4 (b + 4) = .inl (xT cx 0, 6, .inl (upd g i ((nI 3)))) := by rw [eμ4, va_up_self]
          have hb_5_4 := (congrFun eμ4 (b + 5)).trans ((va_up_ne _ _ (by omega)).trans k5)
          have hb_6_4 := (congrFun eμ4 (b + 6)).trans ((va_up_ne _ _ (by omega)).trans k6)
          refine lv_iinc (v := ((nI (i + 1)))) (lv' := [(2, .int (nI (i + 1))), (0, .ref (xa cx b)), (1, .int (nI bits))]) hx hb dX0_failDeeds_26 hl (k := 2) rfl (nI_add _ _) (by decide) rfl (fun ls hl => ?_)
          refine lv_goto (tgt := 2) hx hb dX0_failDeeds_29 (by decide) ?_
          exact ih (i + 1) (upd g i ((nI 3))) μ4 _ _ _ (by omega) (by rw [eμ4, hm, bx_uu]) (fun t ht => by
              show upd g i _ t = _
              unfold upd
              by_cases e : t = i
              · subst e; rw [if_pos rfl, if_pos (show t < t + 1 by omega), c_3]; rfl
              · rw [if_neg e, hg t ht]
                by_cases e2 : t < i
                · rw [if_pos e2, if_pos (show t < i + 1 by omega)]
                · rw [if_neg e2, if_neg (show ¬ t < i + 1 by omega)]) hW (lv_sub hl [1, 2, 0] rfl)
  exact LOOP (Ln L) 0 fd μ _ _ _ (by omega) (by rw [← h4]; exact (va_self _ _).symm) (fun t ht => by rw [if_neg (by omega)]; exact (hv t ht).2.2.2) hW (lv_sub hl [1, 2, 0] rfl)
