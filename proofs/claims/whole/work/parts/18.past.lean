section NUM3
variable {cx : CX} {p : Program} {l : Launch} {e : Env} {R : Room} {s : State} {m : MethodId} {args : Array Value} {below : List Frame} {meth : Method} {c : Code} {H : Heap} {locs : List Loc} {cells slots : Nat} {Q : State → Prop}
variable {cc : ByteArray} {pc nL : Nat} {ls : Array Slot} {rest : List Value} {own : String}
theorem nv_b0eq (F : Fx cx p s m args c cc nL own) {b : Bool} {off : Int} {tgt : Nat} (hdg : decode cc pc = .ok (.if_icmp .eq off, 3)) (ht : (pc : Int) + off = (tgt : Int)) (kt : b = false → W p l e R s m args below meth c H locs cells slots Q (F0 m tgt ls rest)) (kf : b = true → W p l e R s m args below meth c H locs cells slots Q (F0 m (pc + 3) ls rest)) : W p l e R s m args below meth c H locs cells slots Q (F0 m pc ls (.int (nI 0) :: .int (b2 b) :: rest)) := lv_icmp_eq F.1.1 F.1.2.1 hdg ht (fun h => kt (by cases b <;> revert h <;> decide)) (fun h => kf (by cases b <;> revert h <;> decide))
theorem nv_b0ne (F : Fx cx p s m args c cc nL own) {b : Bool} {off : Int} {tgt : Nat} (hdg : decode cc pc = .ok (.if_icmp .ne off, 3)) (ht : (pc : Int) + off = (tgt : Int)) (kt : b = true → W p l e R s m args below meth c H locs cells slots Q (F0 m tgt ls rest)) (kf : b = false → W p l e R s m args below meth c H locs cells slots Q (F0 m (pc + 3) ls rest)) : W p l e R s m args below meth c H locs cells slots Q (F0 m pc ls (.int (nI 0) :: .int (b2 b) :: rest)) := lv_icmp_ne F.1.1 F.1.2.1 hdg ht (fun h => kt (by cases b <;> revert h <;> decide)) (fun h => kf (by cases b <;> revert h <;> decide))
end NUM3

theorem laneR_same {cx : CX} {μ μ1 : ME} {b : Nat} {L : LN} (h : laneR cx μ b L) (ho : ∀ i, b ≤ i → i < b + 7 → μ1 i = μ i) : laneR cx μ1 b L := by
  obtain ⟨fk, fs, fg, fd, fl, fc, h0, h1, h2, h3, h4, h5, h6, h7, h8⟩ := h
  exact ⟨fk, fs, fg, fd, fl, fc, (ho _ (by omega) (by omega)).trans h0, (ho _ (by omega) (by omega)).trans h1, (ho _ (by omega) (by omega)).trans h2, (ho _ (by omega) (by omega)).trans h3, (ho _ (by omega) (by omega)).trans h4, (ho _ (by omega) (by omega)).trans h5, (ho _ (by omega) (by omega)).trans h6, h7, h8⟩
theorem laneR_ext {cx : CX} {μ : ME} {b : Nat} {L M : LN} (h : laneR cx μ b L) (h1 : Ln L = Ln M) (h2 : LU L = LU M) (h3 : Lh L = Lh M) (h4 : ∀ i, i < Ln L → Lk L i = Lk M i ∧ Ls L i = Ls M i ∧ Lg L i = Lg M i ∧ Ld L i = Ld M i) (h5 : ∀ i, lst L i = true → Ll L i = Ll M i) : laneR cx μ b M := by
  obtain ⟨fk, fs, fg, fd, fl, fc, g0, g1, g2, g3, g4, g5, g6, g7, g8⟩ := h
  have hl : lst M = lst L := by funext i; unfold lst; rw [h1, h2]
  refine ⟨fk, fs, fg, fd, fl, fc, by rw [g0, h1, h2, h3], g1, g2, g3, g4, g5, g6, fun i hi => ?_, fun i hi => ?_⟩
  · rw [← h1] at hi
    have a := g7 i hi
    have b := h4 i hi
    rw [← b.1, ← b.2.1, ← b.2.2.1, ← b.2.2.2]
    exact a
  · rw [hl] at hi
    rw [← h5 i hi]
    exact g8 i hi
theorem nI_tn (x : Int32) : nI x.toBitVec.toNat = x := by
  apply Int32.toBitVec_inj.1
  show BitVec.ofNat 32 x.toBitVec.toNat = _
  simp
/-- a lane of six, whatever stands in its rows -/
theorem laneR_any {cx : CX} {μ : ME} {b n : Nat} {fk fs fg fd fl fc : Nat → Int32} (h0 : μ b = .inr (0, [.ref (xa cx (b + 1)), .ref (xa cx (b + 2)), .ref (xa cx (b + 3)), .ref (xa cx (b + 4)), .ref (xa cx (b + 5)), .ref (xa cx (b + 6)), .int (nI n), .int (nI 0), .int (nI 0)]))
  (h1 : μ (b + 1) = .inl (xT cx 0, 6, .inl fk)) (h2 : μ (b + 2) = .inl (xT cx 0, 6, .inl fs)) (h3 : μ (b + 3) = .inl (xT cx 0, 6, .inl fg)) (h4 : μ (b + 4) = .inl (xT cx 0, 6, .inl fd)) (h5 : μ (b + 5) = .inl (xT cx 0, 6, .inl fl)) (h6 : μ (b + 6) = .inl (xT cx 0, 6, .inl fc)) : ∃ L : LN, laneR cx μ b L ∧ Ln L = n ∧ LU L = 0 ∧ Lh L = 0 := by
  refine ⟨(n, fun i => (fk i).toBitVec.toNat, fun i => (fs i).toBitVec.toNat, fun i => (fg i).toBitVec.toNat, fun i => (fd i).toBitVec.toNat, fun _ => 0, 0, 0), ⟨fk, fs, fg, fd, fl, fc, h0, h1, h2, h3, h4, h5, h6, fun i _ => ⟨(nI_tn _).symm, (nI_tn _).symm, (nI_tn _).symm, (nI_tn _).symm⟩, fun i hi => ?_⟩, rfl, rfl, rfl⟩
  exact absurd hi (by unfold lst; show ¬ ((decide (i < n) && (0 : Nat).testBit i) = true); rw [Nat.zero_testBit, Bool.and_false]; decide)
theorem ff_none {t : Nat → Nat} : ∀ (d i : Nat), ff t d i = none → ∀ p, i ≤ p → p < i + d → fitB (t p) p = true := by
  intro d
  induction d with
  | zero => intro i _ p h1 h2; omega
  | succ d ih =>
    intro i h p h1 h2
    unfold ff at h
    split at h
    · by_cases e : p = i
      · subst e; assumption
      · exact ih (i + 1) h p (by omega) (by omega)
    · cases h
theorem fit_digit {c j q : Nat} (h : fitB c (2 + 5 * j + q) = true) (hq : q < 3) : 48 ≤ c ∧ c ≤ 57 ∧ (q = 0 → c ≤ 52) := by
  unfold fitB at h
  rw [if_neg (by omega)] at h
  split at h
  · cases h
  · rw [if_neg (by omega)] at h
    by_cases e : q = 0
    · rw [if_pos (by omega)] at h
      have := of_decide_eq_true h
      omega
    · rw [if_neg (by omega), if_neg (by omega)] at h
      have := of_decide_eq_true h
      omega
theorem ff_31 {t : Nat → Nat} {n : Nat} (h : ff t n 0 = none) : n ≤ 31 := by
  apply Decidable.byContradiction
  intro hn
  have := ff_none n 0 h 31 (by omega) (by omega)
  unfold fitB at this
  rw [if_neg (by omega), if_pos (by omega)] at this
  cases this
/-- the lane that a text tells -/
def tk (t : Nat → Nat) (h : Nat) : Nat := t (2 + 5 * h + 0) - 48
def ts (t : Nat → Nat) (h : Nat) : Nat := t (2 + 5 * h + 1) - 48
def tg (t : Nat → Nat) (h : Nat) : Nat := t (2 + 5 * h + 2) - 48
def td (t : Nat → Nat) (h : Nat) : Nat := deedN (t (2 + 5 * h + 3))
def readL (t : Nat → Nat) (n : Nat) : LN := (n / 5, tk t, ts t, tg t, td t, (fun h => if h < n / 5 ∧ ¬ tk t h = 4 then ts t h else 0), bitsOf (fun h => decide (¬ tk t h = 4)) (n / 5), 0)
/-- i houses of it have been read -/
def rdP (t : Nat → Nat) (n : Nat) (L : LN) (i : Nat) : Prop := Ln L = n / 5 ∧ LU L = bitsOf (fun h => decide (¬ tk t h = 4)) i ∧ Lh L = 0 ∧ (∀ q, q < i → Lk L q = tk t q ∧ Ls L q = ts t q ∧ Lg L q = tg t q ∧ Ld L q = td t q) ∧ ∀ q, q < i → ¬ tk t q = 4 → Ll L q = ts t q
def rdL (t : Nat → Nat) (L : LN) (i : Nat) : LN := (Ln L, va_up (Lk L) i (tk t i), va_up (Ls L) i (ts t i), va_up (Lg L) i (tg t i), va_up (Ld L) i (td t i), Ll L, LU L, Lh L)
theorem rd_cells {t : Nat → Nat} {n i : Nat} {L : LN} (h : rdP t n L i) : ∀ q, q < i + 1 → Lk (rdL t L i) q = tk t q ∧ Ls (rdL t L i) q = ts t q ∧ Lg (rdL t L i) q = tg t q ∧ Ld (rdL t L i) q = td t q := by
  intro q hq
  show va_up (Lk L) i (tk t i) q = _ ∧ va_up (Ls L) i (ts t i) q = _ ∧ va_up (Lg L) i (tg t i) q = _ ∧ va_up (Ld L) i (td t i) q = _
  by_cases e : q = i
  · subst e
    exact ⟨va_up_self _ _ _, va_up_self _ _ _, va_up_self _ _ _, va_up_self _ _ _⟩
  · rw [va_up_ne _ _ e, va_up_ne _ _ e, va_up_ne _ _ e, va_up_ne _ _ e]
    exact h.2.2.2.1 q (by omega)
theorem rdP_no {t : Nat → Nat} {n i : Nat} {L : LN} (h : rdP t n L i) (h4 : tk t i = 4) : rdP t n (rdL t L i) (i + 1) := by
  refine ⟨h.1, ?_, h.2.2.1, rd_cells h, fun q hq hk => ?_⟩
  · show LU L = bitsOf _ i ||| (if decide (¬ tk t i = 4) = true then 2 ^ i else 0)
    rw [if_neg (by simp [h4]), Nat.or_zero]
    exact h.2.1
  · have e : ¬ q = i := fun z => hk (by rw [z]; exact h4)
    exact h.2.2.2.2 q (by omega) hk
theorem rdP_up {t : Nat → Nat} {n i : Nat} {L : LN} (h : rdP t n L i) (h4 : ¬ tk t i = 4) : rdP t n (upL (rdL t L i) i) (i + 1) := by
  refine ⟨h.1, ?_, h.2.2.1, rd_cells h, fun q hq hk => ?_⟩
  · show LU L ||| 2 ^ i = bitsOf _ i ||| (if decide (¬ tk t i = 4) = true then 2 ^ i else 0)
    rw [if_pos (by simp [h4]), h.2.1]
  · show va_up (Ll L) i (va_up (Ls L) i (ts t i) i) q = ts t q
    by_cases e : q = i
    · subst e
      rw [va_up_self, va_up_self]
    · rw [va_up_ne _ _ e]
      exact h.2.2.2.2 q (by omega) hk
theorem rdP_end {cx : CX} {μ : ME} {b n : Nat} {t : Nat → Nat} {L : LN} (hL : laneR cx μ b L) (h : rdP t n L (n / 5)) : laneR cx μ b (readL t n) := by
  refine laneR_ext hL h.1 h.2.1 h.2.2.1 (fun i hi => h.2.2.2.1 i (by rw [← h.1]; exact hi)) (fun i hi => ?_)
  have hi5 : i < n / 5 := by rw [← h.1]; exact lst_n hi
  have hb : (LU L).testBit i = true := by
    unfold lst at hi
    simp only [Bool.and_eq_true] at hi
    exact hi.2
  rw [h.2.1, testBit_bitsOf] at hb
  simp only [Bool.and_eq_true, decide_eq_true_eq] at hb
  show Ll L i = if i < n / 5 ∧ ¬ tk t i = 4 then ts t i else 0
  rw [if_pos ⟨hi5, hb.2⟩]
  exact h.2.2.2.2 i hi5 hb.2

set_option maxHeartbeats 4000000 in
set_option maxRecDepth 100000 in
theorem c_readFrom {cx : CX} (hI : xI cx) (l : Launch) {μ : ME} {b a : Nat} {L0 : LN} {t : Nat → Nat} {n : Nat} (hb7 : b + 7 ≤ xN cx) (ha2 : a + 2 ≤ xN cx) (hab : b + 7 ≤ a ∨ a + 2 ≤ b) (hL0 : laneR cx μ b L0) (hT : textR cx μ a t n) (ht : tok t n) (hff : ff t n 0 = none) (hm5 : n % 5 = 1) : MT cx l yX0_readFrom cX0_readFrom 3 none 2 45 [.ref (xa cx b), .ref (xa cx a)] μ (Qv cx (fun μ1 => laneR cx μ1 b (readL t n) ∧ off b 7 μ μ1)) := by
  refine mt_of hI (by decide) (Nat.le_of_ble_eq_true rfl) ?_
  intro p e s m below meth c ls F hr hlk hW hl
  have hx := F.1.1
  have hb := F.1.2.1
  have hts := F.1.2.2.2.2
  obtain ⟨fk, fs, fg, fd, fl, fc, h0, h1, h2, h3, h4, h5, h6, hv, hv2⟩ := id hL0
  obtain ⟨f, ha, ha1, hvt⟩ := id hT
  have hn31 := ff_31 hff
  have hl : lv_has ls 3 [(0, .ref (xa cx b)), (1, .ref (xa cx a))] := hl
  refine lv_aload_n hx hb dX0_readFrom_0 rfl (lv_at hl 0 rfl) ?_
  refine lv_aload_n hx hb dX0_readFrom_1 rfl (lv_at hl 1 rfl) ?_
  refine cl_ip (cl_run (rest := [.ref (xa cx b)]) F hW e_X0_46 (c_houses hI l ha2 (show textR cx μ a t n from ⟨f, ha, ha1, hvt⟩) ht) ⟨Nat.le_of_ble_eq_true rfl, Nat.le_of_ble_eq_true rfl⟩ (by omega) ha rfl rfl rfl hl (Nat.le_of_ble_eq_true rfl) dX0_readFrom_2 ⟨Nat.zero_le _, Nat.zero_le _⟩) hW (fun H locs hW => ?_)
  refine nv_top (y := ((nI (n / 5)))) (by rw [show min 6 (n / 5) = n / 5 by omega]) ?_
  refine nv_put F hW (by omega) h0 rfl iX0 tyX0 tyX0_ok nmX0 6 (by decide) tw_87 rfl rfl rfl (Nat.le_of_ble_eq_true rfl) dX0_readFrom_5 (fun H locs hW => ?_)
  obtain ⟨μ1, eμ1⟩ : ∃ z : ME, z = va_up μ b (.inr (0, [.ref (xa cx (b + 1)), .ref (xa cx (b + 2)), .ref (xa cx (b + 3)), .ref (xa cx (b + 4)), .ref (xa cx (b + 5)), .ref (xa cx (b + 6)), .int (nI (n / 5)), .int (nI (LU L0)), .int (nI (Lh L0))])) := ⟨_, rfl⟩
  have hW : St cx s μ1 H locs := by rw [eμ1]; exact hW
  have hb_1 : μ1 b = .inr (0, [.ref (xa cx (b + 1)), .ref (xa cx (b + 2)), .ref (xa cx (b + 3)), .ref (xa cx (b + 4)), .ref (xa cx (b + 5)), .ref (xa cx (b + 6)), .int (nI (n / 5)), .int (nI (LU L0)), .int (nI (Lh L0))]) := by rw [eμ1, va_up_self]
  have hb_1_1 := (congrFun eμ1 (b + 1)).trans ((va_up_ne _ _ (by omega)).trans h1)
  have hb_2_1 := (congrFun eμ1 (b + 2)).trans ((va_up_ne _ _ (by omega)).trans h2)
  have hb_3_1 := (congrFun eμ1 (b + 3)).trans ((va_up_ne _ _ (by omega)).trans h3)
  have hb_4_1 := (congrFun eμ1 (b + 4)).trans ((va_up_ne _ _ (by omega)).trans h4)
  have hb_5_1 := (congrFun eμ1 (b + 5)).trans ((va_up_ne _ _ (by omega)).trans h5)
  have hb_6_1 := (congrFun eμ1 (b + 6)).trans ((va_up_ne _ _ (by omega)).trans h6)
  have ha_1 := (congrFun eμ1 a).trans ((va_up_ne _ _ (by omega)).trans ha)
  have ha_1_1 := (congrFun eμ1 (a + 1)).trans ((va_up_ne _ _ (by omega)).trans ha1)
  refine lv_aload_n hx hb dX0_readFrom_8 rfl (lv_at hl 0 rfl) ?_
  refine lv_iconst (v := nI 0) hx hb dX0_readFrom_9 (by decide) ?_
  refine nv_put F hW (by omega) hb_1 rfl iX0 tyX0 tyX0_ok nmX0 7 (by decide) tw_88 rfl rfl rfl (Nat.le_of_ble_eq_true rfl) dX0_readFrom_10 (fun H locs hW => ?_)
  obtain ⟨μ2, eμ2⟩ : ∃ z : ME, z = va_up μ1 b (.inr (0, [.ref (xa cx (b + 1)), .ref (xa cx (b + 2)), .ref (xa cx (b + 3)), .ref (xa cx (b + 4)), .ref (xa cx (b + 5)), .ref (xa cx (b + 6)), .int (nI (n / 5)), .int (nI 0), .int (nI (Lh L0))])) := ⟨_, rfl⟩
  have hW : St cx s μ2 H locs := by rw [eμ2]; exact hW
  have hb_2 : μ2 b = .inr (0, [.ref (xa cx (b + 1)), .ref (xa cx (b + 2)), .ref (xa cx (b + 3)), .ref (xa cx (b + 4)), .ref (xa cx (b + 5)), .ref (xa cx (b + 6)), .int (nI (n / 5)), .int (nI 0), .int (nI (Lh L0))]) := by rw [eμ2, va_up_self]
  have hb_1_2 := (congrFun eμ2 (b + 1)).trans ((va_up_ne _ _ (by omega)).trans hb_1_1)
  have hb_2_2 := (congrFun eμ2 (b + 2)).trans ((va_up_ne _ _ (by omega)).trans hb_2_1)
  have hb_3_2 := (congrFun eμ2 (b + 3)).trans ((va_up_ne _ _ (by omega)).trans hb_3_1)
  have hb_4_2 := (congrFun eμ2 (b + 4)).trans ((va_up_ne _ _ (by omega)).trans hb_4_1)
  have hb_5_2 := (congrFun eμ2 (b + 5)).trans ((va_up_ne _ _ (by omega)).trans hb_5_1)
  have hb_6_2 := (congrFun eμ2 (b + 6)).trans ((va_up_ne _ _ (by omega)).trans hb_6_1)
  have ha_2 := (congrFun eμ2 a).trans ((va_up_ne _ _ (by omega)).trans ha_1)
  have ha_1_2 := (congrFun eμ2 (a + 1)).trans ((va_up_ne _ _ (by omega)).trans ha_1_1)
  refine lv_aload_n hx hb dX0_readFrom_13 rfl (lv_at hl 0 rfl) ?_
  refine lv_iconst (v := nI 0) hx hb dX0_readFrom_14 (by decide) ?_
  refine nv_put F hW (by omega) hb_2 rfl iX0 tyX0 tyX0_ok nmX0 8 (by decide) tw_89 rfl rfl rfl (Nat.le_of_ble_eq_true rfl) dX0_readFrom_15 (fun H locs hW => ?_)
  obtain ⟨μ3, eμ3⟩ : ∃ z : ME, z = va_up μ2 b (.inr (0, [.ref (xa cx (b + 1)), .ref (xa cx (b + 2)), .ref (xa cx (b + 3)), .ref (xa cx (b + 4)), .ref (xa cx (b + 5)), .ref (xa cx (b + 6)), .int (nI (n / 5)), .int (nI 0), .int (nI 0)])) := ⟨_, rfl⟩
  have hW : St cx s μ3 H locs := by rw [eμ3]; exact hW
  have hb_3 : μ3 b = .inr (0, [.ref (xa cx (b + 1)), .ref (xa cx (b + 2)), .ref (xa cx (b + 3)), .ref (xa cx (b + 4)), .ref (xa cx (b + 5)), .ref (xa cx (b + 6)), .int (nI (n / 5)), .int (nI 0), .int (nI 0)]) := by rw [eμ3, va_up_self]
  have hb_1_3 := (congrFun eμ3 (b + 1)).trans ((va_up_ne _ _ (by omega)).trans hb_1_2)
  have hb_2_3 := (congrFun eμ3 (b + 2)).trans ((va_up_ne _ _ (by omega)).trans hb_2_2)
  have hb_3_3 := (congrFun eμ3 (b + 3)).trans ((va_up_ne _ _ (by omega)).trans hb_3_2)
  have hb_4_3 := (congrFun eμ3 (b + 4)).trans ((va_up_ne _ _ (by omega)).trans hb_4_2)
  have hb_5_3 := (congrFun eμ3 (b + 5)).trans ((va_up_ne _ _ (by omega)).trans hb_5_2)
  have hb_6_3 := (congrFun eμ3 (b + 6)).trans ((va_up_ne _ _ (by omega)).trans hb_6_2)
  have ha_3 := (congrFun eμ3 a).trans ((va_up_ne _ _ (by omega)).trans ha_2)
  have ha_1_3 := (congrFun eμ3 (a + 1)).trans ((va_up_ne _ _ (by omega)).trans ha_1_2)
  refine lv_iconst (v := nI 0) hx hb dX0_readFrom_18 (by decide) ?_
  refine lv_istore_n (lv' := [(2, .int (nI 0)), (0, .ref (xa cx b)), (1, .ref (xa cx a))]) hx hb dX0_readFrom_19 rfl hl (by decide) rfl (fun ls hl => ?_)
  obtain ⟨L1, hL1, e1, e2, e3⟩ := laneR_any hb_3 hb_1_3 hb_2_3 hb_3_3 hb_4_3 hb_5_3 hb_6_3
  have LOOP : ∀ (d i : Nat) (L1 : LN) (μ1 : ME) (H : Heap) (locs : List Loc) (ls : Array Slot), i + d = n / 5 → (laneR cx μ1 b L1) → (rdP t n L1 i) → (off b 7 μ μ1) → St cx s μ1 H locs → lv_has ls 3 [(0, .ref (xa cx b)), (1, .ref (xa cx a)), (2, .int (nI i))] → W p l e { frames := 2, cells := 0, slots := 0, locals := 45 } s m [.ref (xa cx b), .ref (xa cx a)].toArray below meth c H locs 0 0 (MQ below (Qv cx (fun μ1 => laneR cx μ1 b (readL t n) ∧ off b 7 μ μ1)) [.ref (xa cx b), .ref (xa cx a)].toArray s 0 0 (xA cx)) (F0 m 20 ls []) := by
    intro d
    induction d with
    | zero =>
      intro i L1 μ1 H locs ls hid hL1 hp ho1 hW hl
      obtain ⟨fki, fsi, fgi, fdi, fli, fci, h0i, h1i, h2i, h3i, h4i, h5i, h6i, hvi, hv2i⟩ := id hL1
      have ka := (ho1 a (by omega)).trans ha
      have ka1 := (ho1 (a + 1) (by omega)).trans ha1
      refine lv_iload_n hx hb dX0_readFrom_20 rfl (lv_at hl 2 rfl) ?_
      refine lv_aload_n hx hb dX0_readFrom_21 rfl (lv_at hl 0 rfl) ?_
      refine nv_get F hW (by omega) h0i rfl iX0 6 (by decide) tw_87 rfl dX0_readFrom_22 ?_
      refine nv_top (y := ((nI (n / 5)))) (by rw [hp.1]) ?_
      refine nv_cge (tgt := 96) F (by omega) (by omega) dX0_readFrom_25 (by decide) (fun c_4 => ?_) (fun c_4 => ?_)
      · skip
        exact rt_v F hr hlk hW ⟨rdP_end hL1 (by rw [show n / 5 = i by omega]; exact hp), ho1⟩ dX0_readFrom_96
      · skip
        exact absurd c_4 (by omega)
    | succ d ih =>
      intro i L1 μ1 H locs ls hid hL1 hp ho1 hW hl
      obtain ⟨fki, fsi, fgi, fdi, fli, fci, h0i, h1i, h2i, h3i, h4i, h5i, h6i, hvi, hv2i⟩ := id hL1
      have ka := (ho1 a (by omega)).trans ha
      have ka1 := (ho1 (a + 1) (by omega)).trans ha1
      refine lv_iload_n hx hb dX0_readFrom_20 rfl (lv_at hl 2 rfl) ?_
      refine lv_aload_n hx hb dX0_readFrom_21 rfl (lv_at hl 0 rfl) ?_
      refine nv_get F hW (by omega) h0i rfl iX0 6 (by decide) tw_87 rfl dX0_readFrom_22 ?_
      refine nv_top (y := ((nI (n / 5)))) (by rw [hp.1]) ?_
      refine nv_cge (tgt := 96) F (by omega) (by omega) dX0_readFrom_25 (by decide) (fun c_5 => ?_) (fun c_5 => ?_)
      · skip
        exact absurd c_5 (by omega)
      · skip
        refine lv_aload_n hx hb dX0_readFrom_28 rfl (lv_at hl 0 rfl) ?_
        refine nv_get F hW (by omega) h0i rfl iX0 0 (by decide) tw_81 rfl dX0_readFrom_29 ?_
        refine lv_iload_n hx hb dX0_readFrom_32 rfl (lv_at hl 2 rfl) ?_
        refine lv_aload_n hx hb dX0_readFrom_33 rfl (lv_at hl 1 rfl) ?_
        refine lv_iload_n hx hb dX0_readFrom_34 rfl (lv_at hl 2 rfl) ?_
        refine lv_iconst (v := nI 0) hx hb dX0_readFrom_35 (by decide) ?_
        refine cl_ip (cl_run (rest := [.int (nI i), .ref (xa cx (b + 1))]) F hW e_X0_51 (c_numberOf hI l ha2 (show textR cx μ1 a t n from ⟨f, ka, ka1, hvt⟩) ht i 0 (by omega) (fit_digit (ff_none n 0 hff (2 + 5 * i + 0) (by omega) (by omega)) (by omega)).1) ⟨Nat.le_of_ble_eq_true rfl, Nat.le_of_ble_eq_true rfl⟩ (by omega) ka rfl rfl rfl hl (Nat.le_of_ble_eq_true rfl) dX0_readFrom_36 ⟨Nat.zero_le _, Nat.zero_le _⟩) hW (fun H locs hW => ?_)
        refine nv_iastN F hW (by omega) h1i (by omega) (by decide) dX0_readFrom_39 (fun H locs hW => ?_)
        obtain ⟨μ6, eμ6⟩ : ∃ z : ME, z = va_up μ1 (b + 1) (.inl (xT cx 0, 6, .inl (upd fki i ((nI (tk t i)))))) := ⟨_, rfl⟩
        have hW : St cx s μ6 H locs := by rw [eμ6]; exact hW
        have hb_6 := (congrFun eμ6 b).trans ((va_up_ne _ _ (by omega)).trans h0i)
        have hb_1_6 : μ6 (b + 1) = .inl (xT cx 0, 6, .inl (upd fki i ((nI (tk t i))))) := by rw [eμ6, va_up_self]
        have hb_2_6 := (congrFun eμ6 (b + 2)).trans ((va_up_ne _ _ (by omega)).trans h2i)
        have hb_3_6 := (congrFun eμ6 (b + 3)).trans ((va_up_ne _ _ (by omega)).trans h3i)
        have hb_4_6 := (congrFun eμ6 (b + 4)).trans ((va_up_ne _ _ (by omega)).trans h4i)
        have hb_5_6 := (congrFun eμ6 (b + 5)).trans ((va_up_ne _ _ (by omega)).trans h5i)
        have hb_6_6 := (congrFun eμ6 (b + 6)).trans ((va_up_ne _ _ (by omega)).trans h6i)
        have ha_6 := (congrFun eμ6 a).trans ((va_up_ne _ _ (by omega)).trans ka)
        have ha_1_6 := (congrFun eμ6 (a + 1)).trans ((va_up_ne _ _ (by omega)).trans ka1)
        refine lv_aload_n hx hb dX0_readFrom_40 rfl (lv_at hl 0 rfl) ?_
        refine nv_get F hW (by omega) hb_6 rfl iX0 1 (by decide) tw_82 rfl dX0_readFrom_41 ?_
        refine lv_iload_n hx hb dX0_readFrom_44 rfl (lv_at hl 2 rfl) ?_
        refine lv_aload_n hx hb dX0_readFrom_45 rfl (lv_at hl 1 rfl) ?_
        refine lv_iload_n hx hb dX0_readFrom_46 rfl (lv_at hl 2 rfl) ?_
        refine lv_iconst (v := nI 1) hx hb dX0_readFrom_47 (by decide) ?_
        refine cl_ip (cl_run (rest := [.int (nI i), .ref (xa cx (b + 2))]) F hW e_X0_51 (c_numberOf hI l ha2 (show textR cx μ6 a t n from ⟨f, ha_6, ha_1_6, hvt⟩) ht i 1 (by omega) (fit_digit (ff_none n 0 hff (2 + 5 * i + 1) (by omega) (by omega)) (by omega)).1) ⟨Nat.le_of_ble_eq_true rfl, Nat.le_of_ble_eq_true rfl⟩ (by omega) ha_6 rfl rfl rfl hl (Nat.le_of_ble_eq_true rfl) dX0_readFrom_48 ⟨Nat.zero_le _, Nat.zero_le _⟩) hW (fun H locs hW => ?_)
        refine nv_iastN F hW (by omega) hb_2_6 (by omega) (by decide) dX0_readFrom_51 (fun H locs hW => ?_)
        obtain ⟨μ7, eμ7⟩ : ∃ z : ME, z = va_up μ6 (b + 2) (.inl (xT cx 0, 6, .inl (upd fsi i ((nI (ts t i)))))) := ⟨_, rfl⟩
        have hW : St cx s μ7 H locs := by rw [eμ7]; exact hW
        have hb_7 := (congrFun eμ7 b).trans ((va_up_ne _ _ (by omega)).trans hb_6)
        have hb_1_7 := (congrFun eμ7 (b + 1)).trans ((va_up_ne _ _ (by omega)).trans hb_1_6)
        have hb_2_7 : μ7 (b + 2) = .inl (xT cx 0, 6, .inl (upd fsi i ((nI (ts t i))))) := by rw [eμ7, va_up_self]
        have hb_3_7 := (congrFun eμ7 (b + 3)).trans ((va_up_ne _ _ (by omega)).trans hb_3_6)
        have hb_4_7 := (congrFun eμ7 (b + 4)).trans ((va_up_ne _ _ (by omega)).trans hb_4_6)
        have hb_5_7 := (congrFun eμ7 (b + 5)).trans ((va_up_ne _ _ (by omega)).trans hb_5_6)
        have hb_6_7 := (congrFun eμ7 (b + 6)).trans ((va_up_ne _ _ (by omega)).trans hb_6_6)
        have ha_7 := (congrFun eμ7 a).trans ((va_up_ne _ _ (by omega)).trans ha_6)
        have ha_1_7 := (congrFun eμ7 (a + 1)).trans ((va_up_ne _ _ (by omega)).trans ha_1_6)
        refine lv_aload_n hx hb dX0_readFrom_52 rfl (lv_at hl 0 rfl) ?_
        refine nv_get F hW (by omega) hb_7 rfl iX0 2 (by decide) tw_83 rfl dX0_readFrom_53 ?_
        refine lv_iload_n hx hb dX0_readFrom_56 rfl (lv_at hl 2 rfl) ?_
        refine lv_aload_n hx hb dX0_readFrom_57 rfl (lv_at hl 1 rfl) ?_
        refine lv_iload_n hx hb dX0_readFrom_58 rfl (lv_at hl 2 rfl) ?_
        refine lv_iconst (v := nI 2) hx hb dX0_readFrom_59 (by decide) ?_
        refine cl_ip (cl_run (rest := [.int (nI i), .ref (xa cx (b + 3))]) F hW e_X0_51 (c_numberOf hI l ha2 (show textR cx μ7 a t n from ⟨f, ha_7, ha_1_7, hvt⟩) ht i 2 (by omega) (fit_digit (ff_none n 0 hff (2 + 5 * i + 2) (by omega) (by omega)) (by omega)).1) ⟨Nat.le_of_ble_eq_true rfl, Nat.le_of_ble_eq_true rfl⟩ (by omega) ha_7 rfl rfl rfl hl (Nat.le_of_ble_eq_true rfl) dX0_readFrom_60 ⟨Nat.zero_le _, Nat.zero_le _⟩) hW (fun H locs hW => ?_)
        refine nv_iastN F hW (by omega) hb_3_7 (by omega) (by decide) dX0_readFrom_63 (fun H locs hW => ?_)
        obtain ⟨μ8, eμ8⟩ : ∃ z : ME, z = va_up μ7 (b + 3) (.inl (xT cx 0, 6, .inl (upd fgi i ((nI (tg t i)))))) := ⟨_, rfl⟩
        have hW : St cx s μ8 H locs := by rw [eμ8]; exact hW
        have hb_8 := (congrFun eμ8 b).trans ((va_up_ne _ _ (by omega)).trans hb_7)
        have hb_1_8 := (congrFun eμ8 (b + 1)).trans ((va_up_ne _ _ (by omega)).trans hb_1_7)
        have hb_2_8 := (congrFun eμ8 (b + 2)).trans ((va_up_ne _ _ (by omega)).trans hb_2_7)
        have hb_3_8 : μ8 (b + 3) = .inl (xT cx 0, 6, .inl (upd fgi i ((nI (tg t i))))) := by rw [eμ8, va_up_self]
        have hb_4_8 := (congrFun eμ8 (b + 4)).trans ((va_up_ne _ _ (by omega)).trans hb_4_7)
        have hb_5_8 := (congrFun eμ8 (b + 5)).trans ((va_up_ne _ _ (by omega)).trans hb_5_7)
        have hb_6_8 := (congrFun eμ8 (b + 6)).trans ((va_up_ne _ _ (by omega)).trans hb_6_7)
        have ha_8 := (congrFun eμ8 a).trans ((va_up_ne _ _ (by omega)).trans ha_7)
        have ha_1_8 := (congrFun eμ8 (a + 1)).trans ((va_up_ne _ _ (by omega)).trans ha_1_7)
        refine lv_aload_n hx hb dX0_readFrom_64 rfl (lv_at hl 0 rfl) ?_
        refine nv_get F hW (by omega) hb_8 rfl iX0 3 (by decide) tw_84 rfl dX0_readFrom_65 ?_
        refine lv_iload_n hx hb dX0_readFrom_68 rfl (lv_at hl 2 rfl) ?_
        refine lv_aload_n hx hb dX0_readFrom_69 rfl (lv_at hl 1 rfl) ?_
        refine lv_iload_n hx hb dX0_readFrom_70 rfl (lv_at hl 2 rfl) ?_
        refine cl_ip (cl_run (rest := [.int (nI i), .ref (xa cx (b + 4))]) F hW e_X0_55 (c_tdeedOf hI l ha2 (show textR cx μ8 a t n from ⟨f, ha_8, ha_1_8, hvt⟩) ht i (by omega)) ⟨Nat.le_of_ble_eq_true rfl, Nat.le_of_ble_eq_true rfl⟩ (by omega) ha_8 rfl rfl rfl hl (Nat.le_of_ble_eq_true rfl) dX0_readFrom_71 ⟨Nat.zero_le _, Nat.zero_le _⟩) hW (fun H locs hW => ?_)
        refine nv_iastN F hW (by omega) hb_4_8 (by omega) (by decide) dX0_readFrom_74 (fun H locs hW => ?_)
        obtain ⟨μ9, eμ9⟩ : ∃ z : ME, z = va_up μ8 (b + 4) (.inl (xT cx 0, 6, .inl (upd fdi i ((nI (td t i)))))) := ⟨_, rfl⟩
        have hW : St cx s μ9 H locs := by rw [eμ9]; exact hW
        have hb_9 := (congrFun eμ9 b).trans ((va_up_ne _ _ (by omega)).trans hb_8)
        have hb_1_9 := (congrFun eμ9 (b + 1)).trans ((va_up_ne _ _ (by omega)).trans hb_1_8)
        have hb_2_9 := (congrFun eμ9 (b + 2)).trans ((va_up_ne _ _ (by omega)).trans hb_2_8)
        have hb_3_9 := (congrFun eμ9 (b + 3)).trans ((va_up_ne _ _ (by omega)).trans hb_3_8)
        have hb_4_9 : μ9 (b + 4) = .inl (xT cx 0, 6, .inl (upd fdi i ((nI (td t i))))) := by rw [eμ9, va_up_self]
        have hb_5_9 := (congrFun eμ9 (b + 5)).trans ((va_up_ne _ _ (by omega)).trans hb_5_8)
        have hb_6_9 := (congrFun eμ9 (b + 6)).trans ((va_up_ne _ _ (by omega)).trans hb_6_8)
        have ha_9 := (congrFun eμ9 a).trans ((va_up_ne _ _ (by omega)).trans ha_8)
        have ha_1_9 := (congrFun eμ9 (a + 1)).trans ((va_up_ne _ _ (by omega)).trans ha_1_8)
        have hL2 : laneR cx μ9 b (rdL t L1 i) := ⟨(upd fki i ((nI (tk t i)))), (upd fsi i ((nI (ts t i)))), (upd fgi i ((nI (tg t i)))), (upd fdi i ((nI (td t i)))), fli, fci, hb_9, hb_1_9, hb_2_9, hb_3_9, hb_4_9, hb_5_9, hb_6_9, fun q hq => ⟨upd_va (g := Lk L1) (fun q hq => (hvi q hq).1) q hq, upd_va (g := Ls L1) (fun q hq => (hvi q hq).2.1) q hq, upd_va (g := Lg L1) (fun q hq => (hvi q hq).2.2.1) q hq, upd_va (g := Ld L1) (fun q hq => (hvi q hq).2.2.2) q hq⟩, hv2i⟩
        refine lv_aload_n hx hb dX0_readFrom_75 rfl (lv_at hl 0 rfl) ?_
        refine nv_get F hW (by omega) hb_9 rfl iX0 0 (by decide) tw_81 rfl dX0_readFrom_76 ?_
        refine lv_iload_n hx hb dX0_readFrom_79 rfl (lv_at hl 2 rfl) ?_
        refine nv_ialdN (x := ((nI (tk t i)))) F hW (by omega) hb_1_9 (by omega) (by decide) pk_us dX0_readFrom_80 ?_
        refine lv_iconst (v := nI 4) hx hb dX0_readFrom_81 (by decide) ?_
        refine nv_ceq (tgt := 90) F (by have := (fit_digit (ff_none n 0 hff (2 + 5 * i + 0) (by omega) (by omega)) (by omega)).2.1; unfold tk; omega) (by omega) dX0_readFrom_82 (by decide) (fun c_10 => ?_) (fun c_10 => ?_)
        · skip
          refine lv_iinc (v := ((nI (i + 1)))) (lv' := [(2, .int (nI (i + 1))), (0, .ref (xa cx b)), (1, .ref (xa cx a))]) hx hb dX0_readFrom_90 hl (k := 2) rfl (nI_add _ _) (by decide) rfl (fun ls hl => ?_)
          refine lv_goto (tgt := 20) hx hb dX0_readFrom_93 (by decide) ?_
          exact ih (i + 1) (rdL t L1 i) μ9 _ _ _ (by omega) hL2 (rdP_no hp (by assumption)) (fun z hz => by rw [eμ9, va_up_ne _ _ (by omega)]; rw [eμ8, va_up_ne _ _ (by omega)]; rw [eμ7, va_up_ne _ _ (by omega)]; rw [eμ6, va_up_ne _ _ (by omega)]; rw [ho1 z (by omega)]) hW (lv_sub hl [1, 2, 0] rfl)
        · skip
          refine lv_aload_n hx hb dX0_readFrom_85 rfl (lv_at hl 0 rfl) ?_
          refine lv_iload_n hx hb dX0_readFrom_86 rfl (lv_at hl 2 rfl) ?_
          refine cl_v (cl_run (rest := []) F hW e_X0_59 (c_standUp0 hI l hb7 hL2 (by show Ln L1 ≤ 6; have := hp.1; omega) i (by show i < Ln L1; have := hp.1; omega)) ⟨Nat.le_of_ble_eq_true rfl, Nat.le_of_ble_eq_true rfl⟩ (by omega) hb_9 rfl rfl rfl hl (Nat.le_of_ble_eq_true rfl) dX0_readFrom_87 ⟨Nat.zero_le _, Nat.zero_le _⟩) hW (fun μ11 H locs q_11 hW => ?_)
          obtain ⟨hLz, hoz⟩ := q_11
          have hza := (hoz a (by omega)).trans ha_9
          have hza_1 := (hoz (a + 1) (by omega)).trans ha_1_9
          refine lv_iinc (v := ((nI (i + 1)))) (lv' := [(2, .int (nI (i + 1))), (0, .ref (xa cx b)), (1, .ref (xa cx a))]) hx hb dX0_readFrom_90 hl (k := 2) rfl (nI_add _ _) (by decide) rfl (fun ls hl => ?_)
          refine lv_goto (tgt := 20) hx hb dX0_readFrom_93 (by decide) ?_
          exact ih (i + 1) (upL (rdL t L1 i) i) μ11 _ _ _ (by omega) hLz (rdP_up hp (by assumption)) (fun z hz => by rw [hoz z (by omega)]; rw [eμ9, va_up_ne _ _ (by omega)]; rw [eμ8, va_up_ne _ _ (by omega)]; rw [eμ7, va_up_ne _ _ (by omega)]; rw [eμ6, va_up_ne _ _ (by omega)]; rw [ho1 z (by omega)]) hW (lv_sub hl [1, 2, 0] rfl)
  exact LOOP (n / 5) 0 L1 μ3 _ _ _ (by omega) hL1 ⟨e1, e2, e3, fun q hq => absurd hq (by omega), fun q hq => absurd hq (by omega)⟩ (fun z hz => by rw [eμ3, va_up_ne _ _ (by omega)]; rw [eμ2, va_up_ne _ _ (by omega)]; rw [eμ1, va_up_ne _ _ (by omega)]) hW (lv_sub hl [1, 2, 0] rfl)
