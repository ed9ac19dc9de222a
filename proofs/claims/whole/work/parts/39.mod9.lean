set_option maxHeartbeats 4000000 in
set_option maxRecDepth 100000 in
theorem m_tenTo {cx : CX} (hI : xI cx) (l : Launch) {μ : ME} (n : Nat) (hn : n < 100) : MT cx l yX5_tenTo cX5_tenTo 4 (some .long) 0 0 [.int (nI n)] μ (Pl cx μ (lN (10 ^ n))) := by
  refine mt_of hI (by decide) (Nat.le_of_ble_eq_true rfl) ?_
  intro p e s m below meth c ls F hr hlk hW hl
  have hx := F.1.1
  have hb := F.1.2.1
  have hts := F.1.2.2.2.2
  have hl : lv_has ls 4 [(0, .int (nI n))] := hl
  refine lv_lconst (v := lN 1) hx hb dX5_tenTo_0 (by decide) ?_
  refine lv_lstore_n (lv' := [(1, .long (lN 1)), (0, .int (nI n))]) hx hb dX5_tenTo_1 rfl hl (by decide) rfl (fun ls hl => ?_)
  refine lv_iconst (v := nI 0) hx hb dX5_tenTo_2 (by decide) ?_
  refine lv_istore_n (lv' := [(3, .int (nI 0)), (1, .long (lN 1)), (0, .int (nI n))]) hx hb dX5_tenTo_3 rfl hl (by decide) rfl (fun ls hl => ?_)
  have LOOP : ∀ (d i : Nat)  (H : Heap) (locs : List Loc) (ls : Array Slot), i + d = n → St cx s μ H locs → lv_has ls 4 [(0, .int (nI n)), (1, .long (lN (10 ^ i))), (3, .int (nI i))] → W p l e { frames := 0, cells := 0, slots := 0, locals := 0 } s m [.int (nI n)].toArray below meth c H locs 0 0 (MQ below (Pl cx μ (lN (10 ^ n))) [.int (nI n)].toArray s 0 0 (xA cx)) (F0 m 4 ls []) := by
    intro d
    induction d with
    | zero =>
      intro i   H locs ls hid  hW hl
      refine lv_iload_n hx hb dX5_tenTo_4 rfl (lv_at hl 2 rfl) ?_
      refine lv_iload_n hx hb dX5_tenTo_5 rfl (lv_at hl 0 rfl) ?_
      refine nv_cge (tgt := 21) F (by omega) (by omega) dX5_tenTo_6 (by decide) (fun c_1 => ?_) (fun c_1 => ?_)
      · skip
        refine lv_lload_n hx hb dX5_tenTo_21 rfl (lv_at hl 1 rfl) ?_
        exact rt_lp F hr hlk hW (by rw [show i = n by omega]) rfl dX5_tenTo_22
      · skip
        exact absurd c_1 (by omega)
    | succ d ih =>
      intro i   H locs ls hid  hW hl
      refine lv_iload_n hx hb dX5_tenTo_4 rfl (lv_at hl 2 rfl) ?_
      refine lv_iload_n hx hb dX5_tenTo_5 rfl (lv_at hl 0 rfl) ?_
      refine nv_cge (tgt := 21) F (by omega) (by omega) dX5_tenTo_6 (by decide) (fun c_2 => ?_) (fun c_2 => ?_)
      · skip
        exact absurd c_2 (by omega)
      · skip
        refine lv_lload_n hx hb dX5_tenTo_9 rfl (lv_at hl 1 rfl) ?_
        refine lv_ldc2 (v := lN 10) hx hb F.1.2.2.2.1 (hts _ tw_835) dX5_tenTo_10 ?_
        refine nw_lmul F dX5_tenTo_13 ?_
        refine lv_lstore_n (lv' := [(1, .long (lN ((10 ^ i) * 10))), (0, .int (nI n)), (3, .int (nI i))]) hx hb dX5_tenTo_14 rfl hl (by decide) rfl (fun ls hl => ?_)
        refine lv_iinc (v := ((nI (i + 1)))) (lv' := [(3, .int (nI (i + 1))), (1, .long (lN ((10 ^ i) * 10))), (0, .int (nI n))]) hx hb dX5_tenTo_15 hl (k := 2) rfl (nI_add _ _) (by decide) rfl (fun ls hl => ?_)
        refine lv_goto (tgt := 4) hx hb dX5_tenTo_18 (by decide) ?_
        exact ih (i + 1) _ _ _ (by omega) hW (by rw [Nat.pow_succ]; exact lv_sub hl [2, 1, 0] rfl)
  exact LOOP n 0 _ _ _ (by omega) hW (lv_sub hl [2, 1, 0] rfl)

theorem p10_le {a b : Nat} (h : a ≤ b) : 10 ^ a ≤ 10 ^ b := Nat.pow_le_pow_right (by decide) h
theorem p10_16 {a : Nat} (h : a ≤ 16) : 10 ^ a ≤ 10000000000000000 := Nat.pow_le_pow_right (n := 10) (by decide) h
theorem p10_pos (a : Nat) : 0 < 10 ^ a := Nat.pow_pos (by decide)
theorem inL_figs {x : Int64} {f : Nat} (hf : f ≤ 16) : inL x (lN 0) (lN (10 ^ f - 1)) = figs x f := by
  have h1 := p10_16 hf
  have h2 := p10_pos f
  apply decide_eq_decide.mpr
  rw [Int64.le_iff_toInt_le, Int64.le_iff_toInt_le, pk_lT (by decide), pk_lT (by omega)]
  have : ((10 ^ f - 1 : Nat) : Int) = (10 : Int) ^ f - 1 := by
    rw [Int.ofNat_sub (by omega)]
    simp
  rw [this]
  omega
def thr (n r q : Nat) : Nat := r / 10 ^ (3 * (n - (q + 1))) % 1000
theorem thr_a {n r q : Nat} (hq : q < n) : thr n r q / 100 = fig r (3 * n) (3 * q) := by
  unfold thr fig
  rw [show 3 * n - 1 - 3 * q = 3 * (n - (q + 1)) + 2 by omega, Nat.pow_add, ← Nat.div_div_eq_div_mul]
  omega
theorem thr_b {n r q : Nat} (hq : q < n) : thr n r q / 10 % 10 = fig r (3 * n) (3 * q + 1) := by
  unfold thr fig
  rw [show 3 * n - 1 - (3 * q + 1) = 3 * (n - (q + 1)) + 1 by omega, Nat.pow_add, ← Nat.div_div_eq_div_mul]
  omega
theorem thr_c {n r q : Nat} (hq : q < n) : thr n r q % 10 = fig r (3 * n) (3 * q + 2) := by
  unfold thr fig
  rw [show 3 * n - 1 - (3 * q + 2) = 3 * (n - (q + 1)) by omega]
  omega
theorem thr_lt (n r q : Nat) : thr n r q < 1000 := Nat.mod_lt _ (by decide)
def arR (L : LN) (n r : Nat) : Nat → Bool
  | 0 => true
  | k + 1 => arR L n r k && mvOk L n r (n - 1 - k)
theorem arR_iff (L : LN) (n r k : Nat) : arR L n r k = true ↔ ∀ j, j < k → mvOk L n r (n - 1 - j) = true := by
  induction k with
  | zero => exact ⟨fun _ j h => absurd h (by omega), fun _ => rfl⟩
  | succ k ih =>
    show (arR L n r k && mvOk L n r (n - 1 - k)) = true ↔ _
    rw [Bool.and_eq_true, ih]
    constructor
    · intro h j hj
      by_cases e : j = k
      · rw [e]; exact h.2
      · exact h.1 j (by omega)
    · intro h
      exact ⟨fun j hj => h j (by omega), h k (by omega)⟩
theorem mvAll_iff (L : LN) (n r k : Nat) : mvAll L n r k = true ↔ ∀ j, j < k → mvOk L n r j = true := by
  induction k with
  | zero => exact ⟨fun _ j h => absurd h (by omega), fun _ => rfl⟩
  | succ k ih =>
    show (mvAll L n r k && mvOk L n r k) = true ↔ _
    rw [Bool.and_eq_true, ih]
    constructor
    · intro h j hj
      by_cases e : j = k
      · rw [e]; exact h.2
      · exact h.1 j (by omega)
    · intro h
      exact ⟨fun j hj => h j (by omega), h k (by omega)⟩
theorem arR_all (L : LN) (n r : Nat) : arR L n r n = mvAll L n r n := by
  rw [Bool.eq_iff_iff, arR_iff, mvAll_iff]
  constructor
  · intro h j hj
    have := h (n - 1 - j) (by omega)
    rw [show n - 1 - (n - 1 - j) = j by omega] at this
    exact this
  · intro h j hj
    exact h _ (by omega)
theorem mvOk_thr {L : LN} {n r q : Nat} (hq : q < n) : mvOk L n r q = (decide (thr n r q / 100 < Ln L) && decide (thr n r q / 10 % 10 < 2) && decide (0 < thr n r q % 10)) := by
  unfold mvOk
  rw [← thr_a hq, ← thr_b hq, ← thr_c hq]
  congr 1
  · congr 1
    apply decide_eq_decide.mpr
    omega
  · apply decide_eq_decide.mpr
    omega

set_option maxHeartbeats 4000000 in
set_option maxRecDepth 100000 in
theorem m_areMoves {cx : CX} (hI : xI cx) (l : Launch) {μ : ME} {S : AS} {B : Nat} {Tr : (Nat → Int32) → Prop} (hN : 149 ≤ xN cx) (hX : modX cx μ S Tr) (hA : aok S B) (hMo : mok S) (hB : B < 800000) (n r : Nat) (hn1 : 1 ≤ n) (hn4 : n ≤ 4) (hr3 : r < 10 ^ (3 * n)) : MT cx l yX5_areMoves cX5_areMoves 7 (some .boolean) 2 46 [.ref (xa cx 136), .int (nI n), .long (lN r)] μ (Pi cx μ (b2 (mvAll (AL S) n r n))) := by
  refine mt_of hI (by decide) (Nat.le_of_ble_eq_true rfl) ?_
  intro p e s m below meth c ls F hr hlk hW hl
  have hx := F.1.1
  have hb := F.1.2.1
  have hts := F.1.2.2.2.2
  obtain ⟨rh, nx, f1, fn, frd, ft, fo, fa, frw, fh, fu, fb, fz, fkp, g136, g137, g138, g139, g140, g141, g142, g143, g144, g145, g146, g147, g148, hg, hv, ht, hnx, hrw, hse, hkp, hTr⟩ := id hX
  have hk := hA.2.1
  have hn6 := hk.1
  have hk4 := hk.2.2.2.1
  have hU := lok_U hk
  have hV0 := modX_V0 hX
  have hl : lv_has ls 7 [(0, .ref (xa cx 136)), (1, .int (nI n)), (2, .long (lN r))] := hl
  refine lv_iconst (v := nI 1) hx hb dX5_areMoves_0 (by decide) ?_
  refine lv_istore (lv' := [(4, .int (nI 1)), (0, .ref (xa cx 136)), (1, .int (nI n)), (2, .long (lN r))]) hx hb dX5_areMoves_1 hl (by decide) rfl (fun ls hl => ?_)
  refine lv_iconst (v := nI 0) hx hb dX5_areMoves_3 (by decide) ?_
  refine lv_istore (lv' := [(5, .int (nI 0)), (4, .int (nI 1)), (0, .ref (xa cx 136)), (1, .int (nI n)), (2, .long (lN r))]) hx hb dX5_areMoves_4 hl (by decide) rfl (fun ls hl => ?_)
  have LOOP : ∀ (d i : Nat)  (H : Heap) (locs : List Loc) (ls : Array Slot), i + d = n → St cx s μ H locs → lv_has ls 7 [(0, .ref (xa cx 136)), (1, .int (nI n)), (2, .long (lN r)), (4, .int (b2 (arR (AL S) n r i))), (5, .int (nI i))] → W p l e { frames := 2, cells := 0, slots := 0, locals := 46 } s m [.ref (xa cx 136), .int (nI n), .long (lN r)].toArray below meth c H locs 0 0 (MQ below (Pi cx μ (b2 (mvAll (AL S) n r n))) [.ref (xa cx 136), .int (nI n), .long (lN r)].toArray s 0 0 (xA cx)) (F0 m 6 ls []) := by
    intro d
    induction d with
    | zero =>
      intro i   H locs ls hid  hW hl
      refine lv_iload hx hb dX5_areMoves_6 (lv_at hl 4 rfl) ?_
      refine lv_iload_n hx hb dX5_areMoves_8 rfl (lv_at hl 1 rfl) ?_
      refine nv_cge (tgt := 78) F (by omega) (by omega) dX5_areMoves_9 (by decide) (fun c_1 => ?_) (fun c_1 => ?_)
      · skip
        refine lv_iload hx hb dX5_areMoves_78 (lv_at hl 3 rfl) ?_
        exact rt_zp F hr hlk hW (by rw [show i = n by omega, arR_all]) rfl dX5_areMoves_80
      · skip
        exact absurd c_1 (by omega)
    | succ d ih =>
      intro i   H locs ls hid  hW hl
      refine lv_iload hx hb dX5_areMoves_6 (lv_at hl 4 rfl) ?_
      refine lv_iload_n hx hb dX5_areMoves_8 rfl (lv_at hl 1 rfl) ?_
      refine nv_cge (tgt := 78) F (by omega) (by omega) dX5_areMoves_9 (by decide) (fun c_2 => ?_) (fun c_2 => ?_)
      · skip
        exact absurd c_2 (by omega)
      · skip
        refine lv_lload_n hx hb dX5_areMoves_12 rfl (lv_at hl 2 rfl) ?_
        refine lv_iconst (v := nI 3) hx hb dX5_areMoves_13 (by decide) ?_
        refine lv_iload hx hb dX5_areMoves_14 (lv_at hl 4 rfl) ?_
        refine nv_mul F dX5_areMoves_16 ?_
        refine cl_lp (cl_runS (rest := [.long (lN r)]) F hW e_X5_145 (m_tenTo hI l (3 * i) (by omega)) ⟨Nat.le_of_ble_eq_true rfl, Nat.le_of_ble_eq_true rfl⟩ rfl rfl hl (Nat.le_of_ble_eq_true rfl) dX5_areMoves_17 ⟨Nat.zero_le _, Nat.zero_le _⟩) hW (fun H locs hW => ?_)
        refine nw_ldiv F (by have := p10_16 (show 3 * n ≤ 16 by omega); omega) (p10_pos _) (by have := p10_16 (show 3 * i ≤ 16 by omega); omega) dX5_areMoves_20 ?_
        refine lv_ldc2 (v := lN 1000) hx hb F.1.2.2.2.1 (hts _ tw_840) dX5_areMoves_21 ?_
        refine nw_lrem F (Nat.lt_of_le_of_lt (Nat.div_le_self _ _) (by have := p10_16 (show 3 * n ≤ 16 by omega); omega)) (by omega) (by omega) dX5_areMoves_24 ?_
        refine nv_topl (y := ((lN (thr n r (n - 1 - i))))) (by unfold thr; rw [show n - (n - 1 - i + 1) = i by omega]) ?_
        refine lv_l2i (v := nI (thr n r (n - 1 - i))) hx hb dX5_areMoves_25 (lN_i _) ?_
        refine lv_istore (lv' := [(6, .int (nI (thr n r (n - 1 - i)))), (0, .ref (xa cx 136)), (1, .int (nI n)), (2, .long (lN r)), (4, .int (b2 (arR (AL S) n r i))), (5, .int (nI i))]) hx hb dX5_areMoves_26 hl (by decide) rfl (fun ls hl => ?_)
        refine lv_iload hx hb dX5_areMoves_28 (lv_at hl 4 rfl) ?_
        refine nv_beq (tgt := 69) F dX5_areMoves_30 (by decide) (fun c_3 => ?_) (fun c_3 => ?_)
        · skip
          refine lv_iconst (v := nI 0) hx hb dX5_areMoves_69 (by decide) ?_
          refine lv_istore (lv' := [(4, .int (nI 0)), (6, .int (nI (thr n r (n - 1 - i)))), (0, .ref (xa cx 136)), (1, .int (nI n)), (2, .long (lN r)), (5, .int (nI i))]) hx hb dX5_areMoves_70 hl (by decide) rfl (fun ls hl => ?_)
          refine lv_iinc (v := ((nI (i + 1)))) (lv' := [(5, .int (nI (i + 1))), (4, .int (nI 0)), (6, .int (nI (thr n r (n - 1 - i)))), (0, .ref (xa cx 136)), (1, .int (nI n)), (2, .long (lN r))]) hx hb dX5_areMoves_72 hl (k := 5) rfl (nI_add _ _) (by decide) rfl (fun ls hl => ?_)
          refine lv_goto (tgt := 6) hx hb dX5_areMoves_75 (by decide) ?_
          have e9 : arR (AL S) n r (i + 1) = false := by
            show (arR (AL S) n r i && mvOk (AL S) n r (n - 1 - i)) = _
            rw [mvOk_thr (by omega)]
            first | (rw [‹arR (AL S) n r i = false›]; rfl) | (rw [‹arR (AL S) n r i = true›, decide_eq_true hd1, decide_eq_true (by omega), decide_eq_true (by omega)]; rfl) | (rw [decide_eq_false hd1]; simp) | (rw [decide_eq_false (show ¬ thr n r (n - 1 - i) / 10 % 10 < 2 by omega)]; simp) | (rw [decide_eq_false (show ¬ 0 < thr n r (n - 1 - i) % 10 by omega)]; simp)
          exact ih (i + 1) _ _ _ (by omega) hW (by rw [e9]; exact lv_sub hl [3, 4, 5, 1, 0] rfl)
        · skip
          refine lv_aload_n hx hb dX5_areMoves_33 rfl (lv_at hl 1 rfl) ?_
          refine lv_iload hx hb dX5_areMoves_34 (lv_at hl 0 rfl) ?_
          refine lv_bipush (v := nI 100) hx hb dX5_areMoves_36 (by decide) ?_
          refine nv_div F (by have := thr_lt n r (n - 1 - i); omega) (by omega) (by omega) dX5_areMoves_38 ?_
          refine cl_ip (cl_run (rest := []) F hW e_X5_91 (m_isHouseN hI l hN hV0 hk (by omega) (by omega) ((thr n r (n - 1 - i)) / 100) (by have := thr_lt n r (n - 1 - i); omega)) ⟨Nat.le_of_ble_eq_true rfl, Nat.le_of_ble_eq_true rfl⟩ (by omega) g136 rfl rfl rfl hl (Nat.le_of_ble_eq_true rfl) dX5_areMoves_39 ⟨Nat.zero_le _, Nat.zero_le _⟩) hW (fun H locs hW => ?_)
          refine nv_beq (tgt := 69) F dX5_areMoves_42 (by decide) (fun c_4 => ?_) (fun c_4 => ?_)
          · skip
            have hd1 := of_decide_eq_false c_4
            refine lv_iconst (v := nI 0) hx hb dX5_areMoves_69 (by decide) ?_
            refine lv_istore (lv' := [(4, .int (nI 0)), (6, .int (nI (thr n r (n - 1 - i)))), (0, .ref (xa cx 136)), (1, .int (nI n)), (2, .long (lN r)), (5, .int (nI i))]) hx hb dX5_areMoves_70 hl (by decide) rfl (fun ls hl => ?_)
            refine lv_iinc (v := ((nI (i + 1)))) (lv' := [(5, .int (nI (i + 1))), (4, .int (nI 0)), (6, .int (nI (thr n r (n - 1 - i)))), (0, .ref (xa cx 136)), (1, .int (nI n)), (2, .long (lN r))]) hx hb dX5_areMoves_72 hl (k := 5) rfl (nI_add _ _) (by decide) rfl (fun ls hl => ?_)
            refine lv_goto (tgt := 6) hx hb dX5_areMoves_75 (by decide) ?_
            have e9 : arR (AL S) n r (i + 1) = false := by
              show (arR (AL S) n r i && mvOk (AL S) n r (n - 1 - i)) = _
              rw [mvOk_thr (by omega)]
              first | (rw [‹arR (AL S) n r i = false›]; rfl) | (rw [‹arR (AL S) n r i = true›, decide_eq_true hd1, decide_eq_true (by omega), decide_eq_true (by omega)]; rfl) | (rw [decide_eq_false hd1]; simp) | (rw [decide_eq_false (show ¬ thr n r (n - 1 - i) / 10 % 10 < 2 by omega)]; simp) | (rw [decide_eq_false (show ¬ 0 < thr n r (n - 1 - i) % 10 by omega)]; simp)
            exact ih (i + 1) _ _ _ (by omega) hW (by rw [e9]; exact lv_sub hl [3, 4, 5, 1, 0] rfl)
          · skip
            have hd1 := of_decide_eq_true c_4
            refine lv_iload hx hb dX5_areMoves_45 (lv_at hl 0 rfl) ?_
            refine lv_bipush (v := nI 10) hx hb dX5_areMoves_47 (by decide) ?_
            refine nv_div F (by have := thr_lt n r (n - 1 - i); omega) (by omega) (by omega) dX5_areMoves_49 ?_
            refine lv_bipush (v := nI 10) hx hb dX5_areMoves_50 (by decide) ?_
            refine nv_rem F (by have := thr_lt n r (n - 1 - i); omega) (by omega) (by omega) dX5_areMoves_52 ?_
            refine lv_iconst (v := nI 2) hx hb dX5_areMoves_53 (by decide) ?_
            refine nv_cge (tgt := 69) F (by omega) (by omega) dX5_areMoves_54 (by decide) (fun c_5 => ?_) (fun c_5 => ?_)
            · skip
              refine lv_iconst (v := nI 0) hx hb dX5_areMoves_69 (by decide) ?_
              refine lv_istore (lv' := [(4, .int (nI 0)), (6, .int (nI (thr n r (n - 1 - i)))), (0, .ref (xa cx 136)), (1, .int (nI n)), (2, .long (lN r)), (5, .int (nI i))]) hx hb dX5_areMoves_70 hl (by decide) rfl (fun ls hl => ?_)
              refine lv_iinc (v := ((nI (i + 1)))) (lv' := [(5, .int (nI (i + 1))), (4, .int (nI 0)), (6, .int (nI (thr n r (n - 1 - i)))), (0, .ref (xa cx 136)), (1, .int (nI n)), (2, .long (lN r))]) hx hb dX5_areMoves_72 hl (k := 5) rfl (nI_add _ _) (by decide) rfl (fun ls hl => ?_)
              refine lv_goto (tgt := 6) hx hb dX5_areMoves_75 (by decide) ?_
              have e9 : arR (AL S) n r (i + 1) = false := by
                show (arR (AL S) n r i && mvOk (AL S) n r (n - 1 - i)) = _
                rw [mvOk_thr (by omega)]
                first | (rw [‹arR (AL S) n r i = false›]; rfl) | (rw [‹arR (AL S) n r i = true›, decide_eq_true hd1, decide_eq_true (by omega), decide_eq_true (by omega)]; rfl) | (rw [decide_eq_false hd1]; simp) | (rw [decide_eq_false (show ¬ thr n r (n - 1 - i) / 10 % 10 < 2 by omega)]; simp) | (rw [decide_eq_false (show ¬ 0 < thr n r (n - 1 - i) % 10 by omega)]; simp)
              exact ih (i + 1) _ _ _ (by omega) hW (by rw [e9]; exact lv_sub hl [3, 4, 5, 1, 0] rfl)
            · skip
              refine lv_iload hx hb dX5_areMoves_57 (lv_at hl 0 rfl) ?_
              refine lv_bipush (v := nI 10) hx hb dX5_areMoves_59 (by decide) ?_
              refine nv_rem F (by have := thr_lt n r (n - 1 - i); omega) (by omega) (by omega) dX5_areMoves_61 ?_
              refine nv_zle (tgt := 69) F (by omega) dX5_areMoves_62 (by decide) (fun c_6 => ?_) (fun c_6 => ?_)
              · skip
                refine lv_iconst (v := nI 0) hx hb dX5_areMoves_69 (by decide) ?_
                refine lv_istore (lv' := [(4, .int (nI 0)), (6, .int (nI (thr n r (n - 1 - i)))), (0, .ref (xa cx 136)), (1, .int (nI n)), (2, .long (lN r)), (5, .int (nI i))]) hx hb dX5_areMoves_70 hl (by decide) rfl (fun ls hl => ?_)
                refine lv_iinc (v := ((nI (i + 1)))) (lv' := [(5, .int (nI (i + 1))), (4, .int (nI 0)), (6, .int (nI (thr n r (n - 1 - i)))), (0, .ref (xa cx 136)), (1, .int (nI n)), (2, .long (lN r))]) hx hb dX5_areMoves_72 hl (k := 5) rfl (nI_add _ _) (by decide) rfl (fun ls hl => ?_)
                refine lv_goto (tgt := 6) hx hb dX5_areMoves_75 (by decide) ?_
                have e9 : arR (AL S) n r (i + 1) = false := by
                  show (arR (AL S) n r i && mvOk (AL S) n r (n - 1 - i)) = _
                  rw [mvOk_thr (by omega)]
                  first | (rw [‹arR (AL S) n r i = false›]; rfl) | (rw [‹arR (AL S) n r i = true›, decide_eq_true hd1, decide_eq_true (by omega), decide_eq_true (by omega)]; rfl) | (rw [decide_eq_false hd1]; simp) | (rw [decide_eq_false (show ¬ thr n r (n - 1 - i) / 10 % 10 < 2 by omega)]; simp) | (rw [decide_eq_false (show ¬ 0 < thr n r (n - 1 - i) % 10 by omega)]; simp)
                exact ih (i + 1) _ _ _ (by omega) hW (by rw [e9]; exact lv_sub hl [3, 4, 5, 1, 0] rfl)
              · skip
                refine lv_iconst (v := nI 1) hx hb dX5_areMoves_65 (by decide) ?_
                refine lv_goto (tgt := 70) hx hb dX5_areMoves_66 (by decide) ?_
                refine lv_istore (lv' := [(4, .int (nI 1)), (6, .int (nI (thr n r (n - 1 - i)))), (0, .ref (xa cx 136)), (1, .int (nI n)), (2, .long (lN r)), (5, .int (nI i))]) hx hb dX5_areMoves_70 hl (by decide) rfl (fun ls hl => ?_)
                refine lv_iinc (v := ((nI (i + 1)))) (lv' := [(5, .int (nI (i + 1))), (4, .int (nI 1)), (6, .int (nI (thr n r (n - 1 - i)))), (0, .ref (xa cx 136)), (1, .int (nI n)), (2, .long (lN r))]) hx hb dX5_areMoves_72 hl (k := 5) rfl (nI_add _ _) (by decide) rfl (fun ls hl => ?_)
                refine lv_goto (tgt := 6) hx hb dX5_areMoves_75 (by decide) ?_
                have e9 : arR (AL S) n r (i + 1) = true := by
                  show (arR (AL S) n r i && mvOk (AL S) n r (n - 1 - i)) = _
                  rw [mvOk_thr (by omega)]
                  first | (rw [‹arR (AL S) n r i = false›]; rfl) | (rw [‹arR (AL S) n r i = true›, decide_eq_true hd1, decide_eq_true (by omega), decide_eq_true (by omega)]; rfl) | (rw [decide_eq_false hd1]; simp) | (rw [decide_eq_false (show ¬ thr n r (n - 1 - i) / 10 % 10 < 2 by omega)]; simp) | (rw [decide_eq_false (show ¬ 0 < thr n r (n - 1 - i) % 10 by omega)]; simp)
                exact ih (i + 1) _ _ _ (by omega) hW (by rw [e9]; exact lv_sub hl [3, 4, 5, 1, 0] rfl)
  exact LOOP n 0 _ _ _ (by omega) hW (lv_sub hl [2, 3, 4, 1, 0] rfl)

def ioS (c : Nat) : Nat → Nat
  | 0 => 0
  | k + 1 => ioS c k ||| 2 ^ (c / 10 ^ k % 10)
def isO (n c : Nat) : Bool := decide (c / 10 ^ n = 0) && decide (ioS c n = 2 ^ (n + 1) - 2)
theorem p2_10 {a : Nat} (h : a < 10) : 2 ^ a ≤ 512 := by
  have : 2 ^ a ≤ 2 ^ 9 := Nat.pow_le_pow_right (by decide) (by omega)
  omega
theorem ioS_lt (c k : Nat) : ioS c k < 1024 := by
  induction k with
  | zero => show 0 < 1024; decide
  | succ k ih => exact Nat.or_lt_two_pow (n := 10) ih (Nat.pow_lt_pow_right (by decide) (Nat.mod_lt _ (by decide)))

set_option maxHeartbeats 4000000 in
set_option maxRecDepth 100000 in
theorem m_isOrder {cx : CX} (hI : xI cx) (l : Launch) {μ : ME} (n c9 : Nat) (hn4 : n ≤ 4) (hc9 : c9 < 5000) : MT cx l yX5_isOrder cX5_isOrder 5 (some .boolean) 0 0 [.int (nI n), .int (nI c9)] μ (Pi cx μ (b2 (isO n c9))) := by
  refine mt_of hI (by decide) (Nat.le_of_ble_eq_true rfl) ?_
  intro p e s m below meth c ls F hr hlk hW hl
  have hx := F.1.1
  have hb := F.1.2.1
  have hts := F.1.2.2.2.2
  have hl : lv_has ls 5 [(0, .int (nI n)), (1, .int (nI c9))] := hl
  refine lv_iconst (v := nI 0) hx hb dX5_isOrder_0 (by decide) ?_
  refine lv_istore_n (lv' := [(2, .int (nI 0)), (0, .int (nI n)), (1, .int (nI c9))]) hx hb dX5_isOrder_1 rfl hl (by decide) rfl (fun ls hl => ?_)
  refine lv_iload_n hx hb dX5_isOrder_2 rfl (lv_at hl 2 rfl) ?_
  refine lv_istore_n (lv' := [(3, .int (nI c9)), (2, .int (nI 0)), (0, .int (nI n)), (1, .int (nI c9))]) hx hb dX5_isOrder_3 rfl hl (by decide) rfl (fun ls hl => ?_)
  refine lv_iconst (v := nI 0) hx hb dX5_isOrder_4 (by decide) ?_
  refine lv_istore (lv' := [(4, .int (nI 0)), (3, .int (nI c9)), (2, .int (nI 0)), (0, .int (nI n)), (1, .int (nI c9))]) hx hb dX5_isOrder_5 hl (by decide) rfl (fun ls hl => ?_)
  have LOOP : ∀ (d i : Nat)  (H : Heap) (locs : List Loc) (ls : Array Slot), i + d = n → St cx s μ H locs → lv_has ls 5 [(0, .int (nI n)), (1, .int (nI c9)), (2, .int (nI (ioS c9 i))), (3, .int (nI (c9 / 10 ^ i))), (4, .int (nI i))] → W p l e { frames := 0, cells := 0, slots := 0, locals := 0 } s m [.int (nI n), .int (nI c9)].toArray below meth c H locs 0 0 (MQ below (Pi cx μ (b2 (isO n c9))) [.int (nI n), .int (nI c9)].toArray s 0 0 (xA cx)) (F0 m 7 ls []) := by
    intro d
    induction d with
    | zero =>
      intro i   H locs ls hid  hW hl
      refine lv_iload hx hb dX5_isOrder_7 (lv_at hl 4 rfl) ?_
      refine lv_iload_n hx hb dX5_isOrder_9 rfl (lv_at hl 0 rfl) ?_
      refine nv_cge (tgt := 33) F (by omega) (by omega) dX5_isOrder_10 (by decide) (fun c_1 => ?_) (fun c_1 => ?_)
      · skip
        refine lv_iload_n hx hb dX5_isOrder_33 rfl (lv_at hl 3 rfl) ?_
        refine nv_zne (tgt := 52) F (Nat.lt_of_le_of_lt (Nat.div_le_self _ _) (by omega)) dX5_isOrder_34 (by decide) (fun c_2 => ?_) (fun c_2 => ?_)
        · skip
          refine lv_iconst (v := nI 0) hx hb dX5_isOrder_52 (by decide) ?_
          have ein : i = n := by omega
          subst ein
          exact rt_zp F hr hlk hW (by unfold isO; first | (rw [decide_eq_true (show c9 / 10 ^ i = 0 by assumption), decide_eq_true (show ioS c9 i = 2 ^ (i + 1) - 2 by assumption)]; rfl) | (rw [decide_eq_false (show ¬ c9 / 10 ^ i = 0 by assumption)]; rfl) | (rw [decide_eq_false (show ¬ ioS c9 i = 2 ^ (i + 1) - 2 by assumption), Bool.and_false]; rfl)) rfl dX5_isOrder_53
        · skip
          refine lv_iload_n hx hb dX5_isOrder_37 rfl (lv_at hl 2 rfl) ?_
          refine lv_iconst (v := nI 1) hx hb dX5_isOrder_38 (by decide) ?_
          refine lv_iload_n hx hb dX5_isOrder_39 rfl (lv_at hl 0 rfl) ?_
          refine lv_iconst (v := nI 1) hx hb dX5_isOrder_40 (by decide) ?_
          refine nv_add F dX5_isOrder_41 ?_
          refine nv_shl F (by omega) (by have := p2_10 (show n + 1 < 10 by omega); omega) dX5_isOrder_42 ?_
          refine lv_iconst (v := nI 2) hx hb dX5_isOrder_43 (by decide) ?_
          refine nv_sub F (by have : 2 ^ 1 ≤ 2 ^ (n + 1) := Nat.pow_le_pow_right (by decide) (by omega); omega) dX5_isOrder_44 ?_
          refine nv_top (y := ((nI (2 ^ (n + 1) - 2)))) (by rw [Nat.one_mul]) ?_
          refine nv_cne (tgt := 52) F (by have := ioS_lt c9 i; omega) (by have := p2_10 (show n + 1 < 10 by omega); omega) dX5_isOrder_45 (by decide) (fun c_3 => ?_) (fun c_3 => ?_)
          · skip
            refine lv_iconst (v := nI 0) hx hb dX5_isOrder_52 (by decide) ?_
            have ein : i = n := by omega
            subst ein
            exact rt_zp F hr hlk hW (by unfold isO; first | (rw [decide_eq_true (show c9 / 10 ^ i = 0 by assumption), decide_eq_true (show ioS c9 i = 2 ^ (i + 1) - 2 by assumption)]; rfl) | (rw [decide_eq_false (show ¬ c9 / 10 ^ i = 0 by assumption)]; rfl) | (rw [decide_eq_false (show ¬ ioS c9 i = 2 ^ (i + 1) - 2 by assumption), Bool.and_false]; rfl)) rfl dX5_isOrder_53
          · skip
            refine lv_iconst (v := nI 1) hx hb dX5_isOrder_48 (by decide) ?_
            refine lv_goto (tgt := 53) hx hb dX5_isOrder_49 (by decide) ?_
            have ein : i = n := by omega
            subst ein
            exact rt_zp F hr hlk hW (by unfold isO; first | (rw [decide_eq_true (show c9 / 10 ^ i = 0 by assumption), decide_eq_true (show ioS c9 i = 2 ^ (i + 1) - 2 by assumption)]; rfl) | (rw [decide_eq_false (show ¬ c9 / 10 ^ i = 0 by assumption)]; rfl) | (rw [decide_eq_false (show ¬ ioS c9 i = 2 ^ (i + 1) - 2 by assumption), Bool.and_false]; rfl)) rfl dX5_isOrder_53
      · skip
        exact absurd c_1 (by omega)
    | succ d ih =>
      intro i   H locs ls hid  hW hl
      refine lv_iload hx hb dX5_isOrder_7 (lv_at hl 4 rfl) ?_
      refine lv_iload_n hx hb dX5_isOrder_9 rfl (lv_at hl 0 rfl) ?_
      refine nv_cge (tgt := 33) F (by omega) (by omega) dX5_isOrder_10 (by decide) (fun c_4 => ?_) (fun c_4 => ?_)
      · skip
        exact absurd c_4 (by omega)
      · skip
        refine lv_iload_n hx hb dX5_isOrder_13 rfl (lv_at hl 2 rfl) ?_
        refine lv_iconst (v := nI 1) hx hb dX5_isOrder_14 (by decide) ?_
        refine lv_iload_n hx hb dX5_isOrder_15 rfl (lv_at hl 3 rfl) ?_
        refine lv_bipush (v := nI 10) hx hb dX5_isOrder_16 (by decide) ?_
        refine nv_rem F (Nat.lt_of_le_of_lt (Nat.div_le_self _ _) (by omega)) (by omega) (by omega) dX5_isOrder_18 ?_
        refine nv_shl F (by omega) (by have := p2_10 (show c9 / 10 ^ i % 10 < 10 by omega); omega) dX5_isOrder_19 ?_
        refine nv_top (y := ((nI (2 ^ (c9 / 10 ^ i % 10))))) (by rw [Nat.one_mul]) ?_
        refine nv_or F dX5_isOrder_20 ?_
        refine lv_istore_n (lv' := [(2, .int (nI ((ioS c9 i) ||| (2 ^ (c9 / 10 ^ i % 10))))), (0, .int (nI n)), (1, .int (nI c9)), (3, .int (nI (c9 / 10 ^ i))), (4, .int (nI i))]) hx hb dX5_isOrder_21 rfl hl (by decide) rfl (fun ls hl => ?_)
        refine lv_iload_n hx hb dX5_isOrder_22 rfl (lv_at hl 3 rfl) ?_
        refine lv_bipush (v := nI 10) hx hb dX5_isOrder_23 (by decide) ?_
        refine nv_div F (Nat.lt_of_le_of_lt (Nat.div_le_self _ _) (by omega)) (by omega) (by omega) dX5_isOrder_25 ?_
        refine lv_istore_n (lv' := [(3, .int (nI ((c9 / 10 ^ i) / 10))), (2, .int (nI ((ioS c9 i) ||| (2 ^ (c9 / 10 ^ i % 10))))), (0, .int (nI n)), (1, .int (nI c9)), (4, .int (nI i))]) hx hb dX5_isOrder_26 rfl hl (by decide) rfl (fun ls hl => ?_)
        refine lv_iinc (v := ((nI (i + 1)))) (lv' := [(4, .int (nI (i + 1))), (3, .int (nI ((c9 / 10 ^ i) / 10))), (2, .int (nI ((ioS c9 i) ||| (2 ^ (c9 / 10 ^ i % 10))))), (0, .int (nI n)), (1, .int (nI c9))]) hx hb dX5_isOrder_27 hl (k := 4) rfl (nI_add _ _) (by decide) rfl (fun ls hl => ?_)
        refine lv_goto (tgt := 7) hx hb dX5_isOrder_30 (by decide) ?_
        exact ih (i + 1) _ _ _ (by omega) hW (by rw [Nat.pow_succ, ← Nat.div_div_eq_div_mul]; exact lv_sub hl [3, 4, 2, 1, 0] rfl)
  exact LOOP n 0 _ _ _ (by omega) hW (by rw [Nat.pow_zero, Nat.div_one]; exact lv_sub hl [3, 4, 2, 1, 0] rfl)

def wN (n c i : Nat) : Nat := c / 10 ^ (n - 1 - i) % 10 - 1
theorem isO_w0 : ∀ n, n < 5 → ∀ c, c < 256 → ordB n c = true → ∀ i, i < n → numR n c n / 10 ^ (n - 1 - i) % 10 = wN n (numR n c n) i + 1 ∧ wN n (numR n c n) i < n := by decide +kernel
theorem mv_wN : ∀ n, n < 5 → ∀ c, c < 256 → ordB n c = true → ∀ i, i < n → mv n c i = wN n (numR n c n) i := by decide +kernel
theorem ord_list : ∀ n, n < 5 → 1 ≤ n → (((List.range (4 ^ n)).filter (ordB n)).map (fun c => numR n c n)) = (List.range 5000).filter (isO n) := by decide +kernel
theorem isO_w (n : Nat) (hn : n ≤ 4) (h1 : 1 ≤ n) (c : Nat) (hc : c < 5000) (h : isO n c = true) : ∀ i, i < n → c / 10 ^ (n - 1 - i) % 10 = wN n c i + 1 ∧ wN n c i < n := by
  have q : c ∈ (List.range 5000).filter (isO n) := List.mem_filter.mpr ⟨List.mem_range.mpr hc, h⟩
  rw [← ord_list n (by omega) h1, List.mem_map] at q
  obtain ⟨d, hd, rfl⟩ := q
  rw [List.mem_filter, List.mem_range] at hd
  have h256 := p44 hn
  exact isO_w0 n (by omega) d (by omega) hd.2
def sfLw (L : LN) (n r : Nat) (w : Nat → Nat) : Nat → LN
  | 0 => L
  | i + 1 => hour (dMv (sfLw L n r w i) n r (w i))
def sfBw (L : LN) (n r : Nat) (w : Nat → Nat) : Nat → Bool
  | 0 => true
  | i + 1 => sfBw L n r w i && (cMv (sfLw L n r w i) n r (w i) && decide (hF (dMv (sfLw L n r w i) n r (w i)) = 0))
theorem sfLw_c (L : LN) (n r c : Nat) (w : Nat → Nat) (k : Nat) (h : ∀ i, i < k → mv n c i = w i) : sfL L n r c k = sfLw L n r w k := by
  induction k with
  | zero => rfl
  | succ k ih =>
    show hour (dMv (sfL L n r c k) n r (mv n c k)) = hour (dMv (sfLw L n r w k) n r (w k))
    rw [ih (fun i hi => h i (by omega)), h k (by omega)]
theorem sfBw_c (L : LN) (n r c : Nat) (w : Nat → Nat) (k : Nat) (h : ∀ i, i < k → mv n c i = w i) : sfB L n r c k = sfBw L n r w k := by
  induction k with
  | zero => rfl
  | succ k ih =>
    show (sfB L n r c k && (cMv (sfL L n r c k) n r (mv n c k) && decide (hF (dMv (sfL L n r c k) n r (mv n c k)) = 0))) = (sfBw L n r w k && (cMv (sfLw L n r w k) n r (w k) && decide (hF (dMv (sfLw L n r w k) n r (w k)) = 0)))
    rw [ih (fun i hi => h i (by omega)), sfLw_c L n r c w k (fun i hi => h i (by omega)), h k (by omega)]
theorem sfBw_f {L : LN} {n r : Nat} {w : Nat → Nat} {i k : Nat} (h : sfBw L n r w i = false) (hi : i ≤ k) : sfBw L n r w k = false := by
  induction k with
  | zero => rw [show i = 0 by omega] at h; exact h
  | succ k ih =>
    by_cases e : i = k + 1
    · rw [← e]; exact h
    · show (sfBw L n r w k && _) = false
      rw [ih (by omega)]
      rfl
theorem lok_sfLw {L : LN} {B : Nat} (hk : lok L B) (n r : Nat) (w : Nat → Nat) (i : Nat) : lok (sfLw L n r w i) (B + 600 * i) := by
  induction i with
  | zero => exact hk
  | succ i ih =>
    rw [show B + 600 * (i + 1) = B + 600 * i + 600 by omega]
    exact lok_hour (lok_dMv ih n r (w i))
def st1 (Q : Nat → Bool) (num : Nat → Nat) (a : Nat × Int32) (c : Nat) : Nat × Int32 := if Q c then (a.1 + 1, if a.1 = 0 then nI (num c) else a.2) else a
theorem st1_filter (A Q : Nat → Bool) (num : Nat → Nat) (l : List Nat) (a : Nat × Int32) : l.foldl (st1 (fun c => A c && Q c) num) a = (l.filter A).foldl (st1 Q num) a := by
  induction l generalizing a with
  | nil => rfl
  | cons c l ih =>
    rw [List.foldl_cons, ih]
    by_cases h : A c = true
    · rw [List.filter_cons_of_pos h, List.foldl_cons]
      have key : st1 (fun c => A c && Q c) num a c = st1 Q num a c := by
        show (if (A c && Q c) = true then _ else _) = (if Q c = true then _ else _)
        rw [h, Bool.true_and]
      rw [key]
    · rw [List.filter_cons_of_neg h]
      rw [Bool.not_eq_true] at h
      have key : st1 (fun c => A c && Q c) num a c = a := by
        show (if (A c && Q c) = true then _ else _) = a
        rw [h, Bool.false_and, if_neg (by decide)]
      rw [key]
theorem st1_map (Q Q2 : Nat → Bool) (num : Nat → Nat) (l : List Nat) (a : Nat × Int32) (h : ∀ c, c ∈ l → Q c = Q2 (num c)) : l.foldl (st1 Q num) a = (l.map num).foldl (st1 Q2 id) a := by
  induction l generalizing a with
  | nil => rfl
  | cons c l ih =>
    rw [List.map_cons, List.foldl_cons, List.foldl_cons, ih _ (fun d hd => h d (List.mem_cons_of_mem _ hd))]
    congr 1
    unfold st1
    rw [h c List.mem_cons_self]
    rfl
/-- as the class counts: none found yet is -9 -/
theorem cO_fold (L : LN) (n r : Nat) (hn : n ≤ 4) (k : Nat) : (List.range k).foldl (st1 (fun c => ordB n c && sfB L n r c n) (fun c => numR n c n)) (0, -9) = (cntO L n r k, fstO L n r k) ∧ (cntO L n r k = 0 ↔ fstO L n r k = -9) := by
  induction k with
  | zero => exact ⟨rfl, ⟨fun _ => rfl, fun _ => rfl⟩⟩
  | succ k ih =>
    rw [List.range_succ, List.foldl_append, ih.1, List.foldl_cons, List.foldl_nil]
    show (if (ordB n k && sfB L n r k n) = true then (cntO L n r k + 1, if cntO L n r k = 0 then nI (numR n k n) else fstO L n r k) else (cntO L n r k, fstO L n r k)) = (cntO L n r k + (if okC L n r k then 1 else 0), if okC L n r k then (if fstO L n r k = -9 then nI (numR n k n) else fstO L n r k) else fstO L n r k) ∧ (cntO L n r k + (if okC L n r k then 1 else 0) = 0 ↔ (if okC L n r k then (if fstO L n r k = -9 then nI (numR n k n) else fstO L n r k) else fstO L n r k) = -9)
    have e : okC L n r k = (ordB n k && sfB L n r k n) := rfl
    by_cases h : okC L n r k = true
    · rw [← e, if_pos h, if_pos h, if_pos h]
      by_cases z : fstO L n r k = -9
      · rw [if_pos z]
        have z0 := ih.2.mpr z
        refine ⟨by rw [if_pos z0], ⟨fun q => by omega, fun q => absurd q (numR_9 n k hn)⟩⟩
      · rw [if_neg z]
        refine ⟨by rw [if_neg (fun q => z (ih.2.mp q))], ⟨fun q => by omega, fun q => absurd q z⟩⟩
    · rw [← e, if_neg h, if_neg h, if_neg h]
      exact ⟨rfl, ih.2⟩
def moQ (L : LN) (n r : Nat) (o : Nat) : Bool := isO n o && sfBw L n r (wN n o) n
theorem orders_eq (L : LN) (n r : Nat) (h1 : 1 ≤ n) (hn : n ≤ 4) : (List.range 5000).foldl (st1 (moQ L n r) id) (0, -9) = (cntO L n r (4 ^ n), fstO L n r (4 ^ n)) := by
  rw [← (cO_fold L n r hn (4 ^ n)).1, st1_filter (ordB n), st1_map (fun c => sfB L n r c n) (fun o => sfBw L n r (wN n o) n) (fun c => numR n c n) _ _ (fun c hc => ?_), ord_list n (by omega) h1]
  · exact st1_filter (isO n) (fun o => sfBw L n r (wN n o) n) id _ _
  · rw [List.mem_filter, List.mem_range] at hc
    have h256 := p44 hn
    exact sfBw_c L n r c _ n (fun i hi => mv_wN n (by omega) c (by omega) hc.2 i hi)
theorem st1_le (Q : Nat → Bool) (num : Nat → Nat) (a : Nat × Int32) (c : Nat) : (st1 Q num a c).1 ≤ a.1 + 1 := by
  unfold st1
  split
  · exact Nat.le_refl _
  · omega
theorem mo_pos (L : LN) (n r : Nat) (k : Nat) : ((List.range k).foldl (st1 (moQ L n r) id) (0, -9)).1 ≤ k := by
  induction k with
  | zero => exact Nat.le_refl _
  | succ k ih =>
    rw [List.range_succ, List.foldl_append]
    have := st1_le (moQ L n r) id ((List.range k).foldl (st1 (moQ L n r) id) (0, -9)) k
    show (st1 _ _ _ k).1 ≤ k + 1
    omega
