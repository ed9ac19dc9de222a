/-- deeds of the first i houses, if they have failed -/
def faP (L : LN) (q i : Nat) : LN := setd L (fun t => if t < i then (if q.testBit t then 3 else Ld L t) else Ld L t)
theorem lok_faP {L : LN} {B : Nat} (hk : lok L B) (q i : Nat) : lok (faP L q i) B := by
  obtain ⟨h1, h2, h3, h4, h5, h6, h7⟩ := hk
  refine ⟨h1, h2, h3, fun t ht => ?_, h5, h6, h7⟩
  have := h4 t ht
  refine ⟨this.1, this.2.1, this.2.2.1, ?_⟩
  show (if t < i then (if q.testBit t then 3 else Ld L t) else Ld L t) ≤ 3
  split
  · split
    · omega
    · exact this.2.2.2
  · exact this.2.2.2
theorem shp_faP {L : LN} {q i : Nat} : shp (faP L q i) L := ⟨rfl, fun _ _ => rfl⟩
theorem faP_0 {f : Nat → Int32} {o q : Nat} {L : LN} (h : lv f o L) : lv f o (faP L q 0) := lv_ext h rfl rfl (fun t _ => ⟨rfl, rfl, by show Ld L t = if t < 0 then (if q.testBit t then 3 else Ld L t) else Ld L t; rw [if_neg (by omega)], rfl, rfl⟩)
theorem faP_n {f : Nat → Int32} {o q : Nat} {L : LN} (h : lv f o (faP L q (Ln L))) : lv f o (failL L q) := lv_ext h rfl rfl (fun t ht => ⟨rfl, rfl, by show (if t < Ln L then (if q.testBit t then 3 else Ld L t) else Ld L t) = (if q.testBit t then 3 else Ld L t); rw [if_pos (show t < Ln L from ht)], rfl, rfl⟩)
theorem lv_faP {f : Nat → Int32} {o q i v : Nat} {L : LN} (h : lv f o (faP L q i)) (hn : Ln L ≤ 6) (hi : i < Ln L) (hv : v = if q.testBit i then 3 else Ld L i) : lv (upd f (o + 12 + i) (nI v)) o (faP L q (i + 1)) := by
  refine lv_ext (lv_dd (v := v) h hn hi) rfl rfl (fun t ht => ⟨rfl, rfl, ?_, rfl, rfl⟩)
  show va_up (fun t => if t < i then (if q.testBit t then 3 else Ld L t) else Ld L t) i v t = if t < i + 1 then (if q.testBit t then 3 else Ld L t) else Ld L t
  by_cases e : t = i
  · subst e
    rw [va_up_self, if_pos (show t < t + 1 by omega), hv]
  · rw [va_up_ne _ _ e]
    by_cases e2 : t < i
    · rw [if_pos e2, if_pos (show t < i + 1 by omega)]
    · rw [if_neg e2, if_neg (show ¬ t < i + 1 by omega)]
def wgB (U x q h : Nat) : Nat := if U.testBit h then (if q.testBit h then x else 10 - x) else (if q.testBit h then 0 else 1)
def wgR (U x q : Nat) : Nat → Nat
  | 0 => 1
  | h + 1 => wgR U x q h * wgB U x q h
def alS (U x n : Nat) : Nat → Nat
  | 0 => 0
  | q + 1 => alS U x n q + wgR U x q n
set_option maxRecDepth 100000 in
theorem wg_fl : ∀ n, n < 7 → ∀ U, U < 2 ^ n → ∀ q, q < 2 ^ n → ∀ x, x < 11 → wgR U x q n = if sbB U q then flT U x q else 0 := by decide +kernel
set_option maxRecDepth 100000 in
theorem al_10 : ∀ n, n < 7 → ∀ U, U < 2 ^ n → ∀ x, x < 11 → alS U x n (2 ^ n) = 10 ^ pop U := by decide +kernel
theorem flS_s {L : LN} {v x q : Nat} {B : Nat} (hk : lok L B) (hq : q < 2 ^ Ln L) (hx : x < 11) : flS L v x (q + 1) = flS L v x q + (if v ≤ stF L q then wgR (LU L) x q (Ln L) else 0) := by
  show flS L v x q + (if flB L v q then flT (LU L) x q else 0) = _
  rw [wg_fl (Ln L) (by have := hk.1; omega) (LU L) hk.2.1 q hq x hx]
  unfold flB
  by_cases a : v ≤ stF L q
  · rw [decide_eq_true a, Bool.and_true, if_pos a]
  · rw [decide_eq_false a, Bool.and_false, if_neg a]
    rfl

set_option maxHeartbeats 4000000 in
set_option maxRecDepth 100000 in
theorem x_fails {cx : CX} (hI : xI cx) (l : Launch) {μ : ME} {S : AS} {B : Nat} {Tr : (Nat → Int32) → Prop} (hN : 149 ≤ xN cx) (hX : modX cx μ S Tr) (hA : aok S B) (hMo : mok S) (hB : B < 800000) (vv xx : Int32) (up : Bool) : MT cx l yX5_fails cX5_fails 10 (some .int) 5 118 [.ref (xa cx 136), .int vv, .int xx, .int (b2 up)] μ (Ei cx (r_fails S vv xx up) (fun μ1 => modX cx μ1 S (fun _ => True) ∧ off 136 13 μ μ1)) := by
  refine mt_of hI (by decide) (Nat.le_of_ble_eq_true rfl) ?_
  intro p e s m below meth c ls F hr hlk hW hl
  have hx := F.1.1
  have hb := F.1.2.1
  have hts := F.1.2.2.2.2
  obtain ⟨rh, nx, f1, fn, frd, ft, fo, fa, frw, fh, fu, fb, fz, fkp, g136, g137, g138, g139, g140, g141, g142, g143, g144, g145, g146, g147, g148, hg, hv, ht, hnx, hrw, hse, hkp, hTr⟩ := id hX
  have hk := hA.2.1
  have hn6 := hk.1
  have hk4 := hk.2.2.2.1
  have hU := lok_U hk
  have hV0 := modX_V0 hX
  have hl : lv_has ls 10 [(0, .ref (xa cx 136)), (1, .int vv), (2, .int xx), (3, .int (b2 up))] := hl
  refine lv_iload_n hx hb dX5_fails_0 rfl (lv_at hl 1 rfl) ?_
  refine lv_i2l hx hb dX5_fails_1 rfl ?_
  refine lv_lconst (v := lN 0) hx hb dX5_fails_2 (by decide) ?_
  refine lv_ldc2 (v := lN 6) hx hb F.1.2.2.2.1 (hts _ tw_916) dX5_fails_3 ?_
  refine cl_ip (cl_runS (rest := []) F hW e_X5_49 (m_in hI l ((vv.toInt64)) ((lN 0)) ((lN 6))) ⟨Nat.le_of_ble_eq_true rfl, Nat.le_of_ble_eq_true rfl⟩ rfl rfl hl (Nat.le_of_ble_eq_true rfl) dX5_fails_6 ⟨Nat.zero_le _, Nat.zero_le _⟩) hW (fun H locs hW => ?_)
  refine nv_top (y := ((b2 (inR vv 7)))) (congrArg b2 (inL_R (by decide))) ?_
  refine nv_beq (tgt := 24) F dX5_fails_9 (by decide) (fun c_1 => ?_) (fun c_1 => ?_)
  · skip
    refine lv_bipush (v := (-2)) hx hb dX5_fails_24 (by decide) ?_
    exact rt_ie F hr hlk hW (by unfold r_fails; first | (rw [‹inR vv 7 = false›]; rfl) | (rw [‹inR xx 11 = false›, Bool.and_false]; rfl)) ⟨(modX_tr hX (fun _ _ => trivial)), off_rf⟩ dX5_fails_26
  · skip
    refine lv_iload_n hx hb dX5_fails_12 rfl (lv_at hl 2 rfl) ?_
    refine lv_i2l hx hb dX5_fails_13 rfl ?_
    refine lv_lconst (v := lN 0) hx hb dX5_fails_14 (by decide) ?_
    refine lv_ldc2 (v := lN 10) hx hb F.1.2.2.2.1 (hts _ tw_835) dX5_fails_15 ?_
    refine cl_ip (cl_runS (rest := []) F hW e_X5_49 (m_in hI l ((xx.toInt64)) ((lN 0)) ((lN 10))) ⟨Nat.le_of_ble_eq_true rfl, Nat.le_of_ble_eq_true rfl⟩ rfl rfl hl (Nat.le_of_ble_eq_true rfl) dX5_fails_18 ⟨Nat.zero_le _, Nat.zero_le _⟩) hW (fun H locs hW => ?_)
    refine nv_top (y := ((b2 (inR xx 11)))) (congrArg b2 (inL_R (by decide))) ?_
    refine nv_bne (tgt := 27) F dX5_fails_21 (by decide) (fun c_2 => ?_) (fun c_2 => ?_)
    · skip
      obtain ⟨v, hv7, rfl⟩ := inR_of (show inR vv 7 = true by assumption) (by omega)
      obtain ⟨x, hx11, rfl⟩ := inR_of (show inR xx 11 = true by assumption) (by omega)
      have h64 := pow_n6 hn6
      have hU6 := lok_U hk
      refine lv_iconst (v := nI 0) hx hb dX5_fails_27 (by decide) ?_
      refine lv_istore (lv' := [(4, .int (nI 0)), (0, .ref (xa cx 136)), (1, .int (nI v)), (2, .int (nI x)), (3, .int (b2 up))]) hx hb dX5_fails_28 hl (by decide) rfl (fun ls hl => ?_)
      refine lv_iconst (v := nI 0) hx hb dX5_fails_30 (by decide) ?_
      refine lv_istore (lv' := [(5, .int (nI 0)), (4, .int (nI 0)), (0, .ref (xa cx 136)), (1, .int (nI v)), (2, .int (nI x)), (3, .int (b2 up))]) hx hb dX5_fails_31 hl (by decide) rfl (fun ls hl => ?_)
      refine lv_iconst (v := nI 0) hx hb dX5_fails_33 (by decide) ?_
      refine lv_istore (lv' := [(6, .int (nI 0)), (5, .int (nI 0)), (4, .int (nI 0)), (0, .ref (xa cx 136)), (1, .int (nI v)), (2, .int (nI x)), (3, .int (b2 up))]) hx hb dX5_fails_34 hl (by decide) rfl (fun ls hl => ?_)
      have LA : ∀ (da i : Nat)  (μLA : ME) (H : Heap) (locs : List Loc) (ls : Array Slot), i + da = 2 ^ Ln (AL S) → (modX cx μLA S (fun _ => True)) → (off 136 13 μ μLA) → St cx s μLA H locs → lv_has ls 10 [(0, .ref (xa cx 136)), (1, .int (nI v)), (2, .int (nI x)), (3, .int (b2 up)), (4, .int (nI (flS (AL S) v x i))), (5, .int (nI (alS (LU (AL S)) x (Ln (AL S)) i))), (6, .int (nI i))] → W p l e { frames := 5, cells := 0, slots := 0, locals := 118 } s m [.ref (xa cx 136), .int (nI v), .int (nI x), .int (b2 up)].toArray below meth c H locs 0 0 (MQ below (Ei cx (r_fails S (nI v) (nI x) up) (fun μ1 => modX cx μ1 S (fun _ => True) ∧ off 136 13 μ μ1)) [.ref (xa cx 136), .int (nI v), .int (nI x), .int (b2 up)].toArray s 0 0 (xA cx)) (F0 m 36 ls []) := by
        intro da
        induction da with
        | zero =>
          intro i  μLA H locs ls hid hXiLA hoiLA hW hl
          obtain ⟨rh_a, nx_a, f1_a, fn_a, frd_a, ft_a, fo_a, fa_a, frw_a, fh_a, fu_a, fb_a, fz_a, fkp_a, g136_a, g137_a, g138_a, g139_a, g140_a, g141_a, g142_a, g143_a, g144_a, g145_a, g146_a, g147_a, g148_a, hg_a, hv_a, ht_a, hnx_a, hrw_a, hse_a, hkp_a, hTr_a⟩ := id hXiLA
          have hV0_a := modX_V0 hXiLA
          refine lv_iload hx hb dX5_fails_36 (lv_at hl 6 rfl) ?_
          refine lv_iconst (v := nI 1) hx hb dX5_fails_38 (by decide) ?_
          refine lv_aload_n hx hb dX5_fails_39 rfl (lv_at hl 0 rfl) ?_
          refine nv_get F hW (by omega) g136_a rfl iX5 0 (by decide) tw_629 rfl dX5_fails_40 ?_
          refine nv_shl F (by omega) (by rw [Nat.one_mul]; omega) dX5_fails_43 ?_
          refine nv_top (y := ((nI (2 ^ Ln (AL S))))) (by rw [Nat.one_mul]) ?_
          refine nv_cge (tgt := 196) F (by omega) (by omega) dX5_fails_44 (by decide) (fun c_3 => ?_) (fun c_3 => ?_)
          · skip
            have eAl : alS (LU (AL S)) x (Ln (AL S)) i = 10 ^ pop (LU (AL S)) := by rw [show i = 2 ^ Ln (AL S) by omega]; exact al_10 (Ln (AL S)) (by omega) (LU (AL S)) hk.2.1 x (by omega)
            have hb0 : 0 < alS (LU (AL S)) x (Ln (AL S)) i := by rw [eAl]; exact Nat.pow_pos (by decide)
            have hb31 : alS (LU (AL S)) x (Ln (AL S)) i < 2147483648 := by rw [eAl]; have := Nat.pow_le_pow_right (show 0 < 10 by decide) (pop_le (LU (AL S))); omega
            refine lv_iload hx hb dX5_fails_196 (lv_at hl 4 rfl) ?_
            refine nv_top (y := ((iI (flS (AL S) v x i : Nat)))) (iI_nI _) ?_
            refine lv_iload hx hb dX5_fails_198 (lv_at hl 5 rfl) ?_
            refine cl_ip (cl_runS (rest := []) F hW e_X5_187 (m_common hI l (flS (AL S) v x i : Nat) (alS (LU (AL S)) x (Ln (AL S)) i) (by omega) (by have := flS_le (v := v) (x := x) hU6 (by omega) i (by omega); omega) (by rw [eAl]; have := Nat.pow_le_pow_right (show 0 < 10 by decide) (pop_le (LU (AL S))); omega)) ⟨Nat.le_of_ble_eq_true rfl, Nat.le_of_ble_eq_true rfl⟩ rfl rfl hl (Nat.le_of_ble_eq_true rfl) dX5_fails_200 ⟨Nat.zero_le _, Nat.zero_le _⟩) hW (fun H locs hW => ?_)
            refine lv_istore (lv' := [(6, .int (nI (Nat.gcd (flS (AL S) v x i : Int).natAbs (alS (LU (AL S)) x (Ln (AL S)) i)))), (0, .ref (xa cx 136)), (1, .int (nI v)), (2, .int (nI x)), (3, .int (b2 up)), (4, .int (nI (flS (AL S) v x i))), (5, .int (nI (alS (LU (AL S)) x (Ln (AL S)) i)))]) hx hb dX5_fails_203 hl (by decide) rfl (fun ls hl => ?_)
            refine lv_iload_n hx hb dX5_fails_205 rfl (lv_at hl 4 rfl) ?_
            refine nv_beq (tgt := 217) F dX5_fails_206 (by decide) (fun c_4 => ?_) (fun c_4 => ?_)
            · skip
              refine lv_iload hx hb dX5_fails_217 (lv_at hl 6 rfl) ?_
              refine lv_iload hx hb dX5_fails_219 (lv_at hl 0 rfl) ?_
              refine lv_idiv hx hb dX5_fails_221 (nI_ne0 (Nat.gcd_pos_of_pos_right _ hb0) (Nat.lt_of_le_of_lt (Nat.le_of_dvd hb0 (Nat.gcd_dvd_right _ _)) hb31)) ?_
              exact rt_ie F hr hlk hW (by unfold r_fails; rw [inR_j hv7 (by omega), inR_j hx11 (by omega), nI_clamp (by omega), nI_clamp (by omega), show 2 ^ Ln (AL S) = i by omega, ← eAl]; unfold pofI; rw [‹up = _›]; rfl) ⟨(modX_tr hXiLA (fun _ _ => trivial)), (fun z hz => by rw [hoiLA z (by omega)])⟩ dX5_fails_222
            · skip
              refine lv_iload hx hb dX5_fails_209 (lv_at hl 5 rfl) ?_
              refine nv_top (y := ((iI (flS (AL S) v x i : Nat)))) (iI_nI _) ?_
              refine lv_iload hx hb dX5_fails_211 (lv_at hl 0 rfl) ?_
              refine lv_idiv hx hb dX5_fails_213 (nI_ne0 (Nat.gcd_pos_of_pos_right _ hb0) (Nat.lt_of_le_of_lt (Nat.le_of_dvd hb0 (Nat.gcd_dvd_right _ _)) hb31)) ?_
              refine lv_goto (tgt := 222) hx hb dX5_fails_214 (by decide) ?_
              exact rt_ie F hr hlk hW (by unfold r_fails; rw [inR_j hv7 (by omega), inR_j hx11 (by omega), nI_clamp (by omega), nI_clamp (by omega), show 2 ^ Ln (AL S) = i by omega, ← eAl]; unfold pofI; rw [‹up = _›]; rfl) ⟨(modX_tr hXiLA (fun _ _ => trivial)), (fun z hz => by rw [hoiLA z (by omega)])⟩ dX5_fails_222
          · skip
            exact absurd c_3 (by omega)
        | succ da ihA =>
          intro i  μLA H locs ls hid hXiLA hoiLA hW hl
          obtain ⟨rh_a, nx_a, f1_a, fn_a, frd_a, ft_a, fo_a, fa_a, frw_a, fh_a, fu_a, fb_a, fz_a, fkp_a, g136_a, g137_a, g138_a, g139_a, g140_a, g141_a, g142_a, g143_a, g144_a, g145_a, g146_a, g147_a, g148_a, hg_a, hv_a, ht_a, hnx_a, hrw_a, hse_a, hkp_a, hTr_a⟩ := id hXiLA
          have hV0_a := modX_V0 hXiLA
          refine lv_iload hx hb dX5_fails_36 (lv_at hl 6 rfl) ?_
          refine lv_iconst (v := nI 1) hx hb dX5_fails_38 (by decide) ?_
          refine lv_aload_n hx hb dX5_fails_39 rfl (lv_at hl 0 rfl) ?_
          refine nv_get F hW (by omega) g136_a rfl iX5 0 (by decide) tw_629 rfl dX5_fails_40 ?_
          refine nv_shl F (by omega) (by rw [Nat.one_mul]; omega) dX5_fails_43 ?_
          refine nv_top (y := ((nI (2 ^ Ln (AL S))))) (by rw [Nat.one_mul]) ?_
          refine nv_cge (tgt := 196) F (by omega) (by omega) dX5_fails_44 (by decide) (fun c_5 => ?_) (fun c_5 => ?_)
          · skip
            exact absurd c_5 (by omega)
          · skip
            refine lv_aload_n hx hb dX5_fails_47 rfl (lv_at hl 0 rfl) ?_
            refine cl_v (cl_run (rest := []) F hW e_X5_134 (m_layTrial hI l hN hXiLA hA hMo hB) ⟨Nat.le_of_ble_eq_true rfl, Nat.le_of_ble_eq_true rfl⟩ (by omega) g136_a rfl rfl rfl hl (Nat.le_of_ble_eq_true rfl) dX5_fails_48 ⟨Nat.zero_le _, Nat.zero_le _⟩) hW (fun μ6 H locs q_6 hW => ?_)
            obtain ⟨hX_6, ho_6⟩ := q_6
            obtain ⟨rh_6, nx_6, f1_6, fn_6, frd_6, ft_6, fo_6, fa_6, frw_6, fh_6, fu_6, fb_6, fz_6, fkp_6, g136_6, g137_6, g138_6, g139_6, g140_6, g141_6, g142_6, g143_6, g144_6, g145_6, g146_6, g147_6, g148_6, hg_6, hv_6, ht_6, hnx_6, hrw_6, hse_6, hkp_6, hTr_6⟩ := id hX_6
            have hs_6 : shp (AL S) (AL S) := shp_rf
            have hkT_6 := hk
            have hn_6 : Ln (AL S) = Ln (AL S) := hs_6.1
            have hV0_6 := modX_V0 hX_6
            have hV1_6 := modX_V1 hX_6 hs_6
            refine lv_iconst (v := nI 1) hx hb dX5_fails_51 (by decide) ?_
            refine lv_istore (lv' := [(7, .int (nI 1)), (0, .ref (xa cx 136)), (1, .int (nI v)), (2, .int (nI x)), (3, .int (b2 up)), (4, .int (nI (flS (AL S) v x i))), (5, .int (nI (alS (LU (AL S)) x (Ln (AL S)) i))), (6, .int (nI i))]) hx hb dX5_fails_52 hl (by decide) rfl (fun ls hl => ?_)
            refine lv_iconst (v := nI 0) hx hb dX5_fails_54 (by decide) ?_
            refine lv_istore (lv' := [(8, .int (nI 0)), (7, .int (nI 1)), (0, .ref (xa cx 136)), (1, .int (nI v)), (2, .int (nI x)), (3, .int (b2 up)), (4, .int (nI (flS (AL S) v x i))), (5, .int (nI (alS (LU (AL S)) x (Ln (AL S)) i))), (6, .int (nI i))]) hx hb dX5_fails_55 hl (by decide) rfl (fun ls hl => ?_)
            have LB : ∀ (db k : Nat)  (μLB : ME) (H : Heap) (locs : List Loc) (ls : Array Slot), k + db = Ln (AL S) → (modX cx μLB S (fun fn => lv fn 31 (faP (AL S) i k))) → (off 136 13 μ μLB) → St cx s μLB H locs → lv_has ls 10 [(0, .ref (xa cx 136)), (1, .int (nI v)), (2, .int (nI x)), (3, .int (b2 up)), (4, .int (nI (flS (AL S) v x i))), (5, .int (nI (alS (LU (AL S)) x (Ln (AL S)) i))), (6, .int (nI i)), (7, .int (nI (wgR (LU (AL S)) x i k))), (8, .int (nI k))] → W p l e { frames := 5, cells := 0, slots := 0, locals := 118 } s m [.ref (xa cx 136), .int (nI v), .int (nI x), .int (b2 up)].toArray below meth c H locs 0 0 (MQ below (Ei cx (r_fails S (nI v) (nI x) up) (fun μ1 => modX cx μ1 S (fun _ => True) ∧ off 136 13 μ μ1)) [.ref (xa cx 136), .int (nI v), .int (nI x), .int (b2 up)].toArray s 0 0 (xA cx)) (F0 m 57 ls []) := by
              intro db
              induction db with
              | zero =>
                intro k  μLB H locs ls hid hXiLB hoiLB hW hl
                obtain ⟨rh_b, nx_b, f1_b, fn_b, frd_b, ft_b, fo_b, fa_b, frw_b, fh_b, fu_b, fb_b, fz_b, fkp_b, g136_b, g137_b, g138_b, g139_b, g140_b, g141_b, g142_b, g143_b, g144_b, g145_b, g146_b, g147_b, g148_b, hg_b, hv_b, ht_b, hnx_b, hrw_b, hse_b, hkp_b, hTr_b⟩ := id hXiLB
                have hs_b : shp (faP (AL S) i k) (AL S) := shp_faP
                have hkT_b := lok_faP hk i k
                have hn_b : Ln (faP (AL S) i k) = Ln (AL S) := hs_b.1
                have hV0_b := modX_V0 hXiLB
                have hV1_b := modX_V1 hXiLB hs_b
                refine lv_iload hx hb dX5_fails_57 (lv_at hl 8 rfl) ?_
                refine lv_aload_n hx hb dX5_fails_59 rfl (lv_at hl 0 rfl) ?_
                refine nv_get F hW (by omega) g136_b rfl iX5 0 (by decide) tw_629 rfl dX5_fails_60 ?_
                refine nv_cge (tgt := 154) F (by omega) (by omega) dX5_fails_63 (by decide) (fun c_7 => ?_) (fun c_7 => ?_)
                · skip
                  have ek : k = Ln (AL S) := by omega
                  subst ek
                  have hXe : modX cx μLB S (fun fn => lv fn 31 (failL (AL S) i)) := modX_tr hXiLB (fun f9 h9 => faP_n h9)
                  obtain ⟨rh_e, nx_e, f1_e, fn_e, frd_e, ft_e, fo_e, fa_e, frw_e, fh_e, fu_e, fb_e, fz_e, fkp_e, g136_e, g137_e, g138_e, g139_e, g140_e, g141_e, g142_e, g143_e, g144_e, g145_e, g146_e, g147_e, g148_e, hg_e, hv_e, ht_e, hnx_e, hrw_e, hse_e, hkp_e, hTr_e⟩ := id hXe
                  have hs_e : shp (failL (AL S) i) (AL S) := shp_failL
                  have hkT_e := lok_failL hk i
                  have hn_e : Ln (failL (AL S) i) = Ln (AL S) := hs_e.1
                  have hV0_e := modX_V0 hXe
                  have hV1_e := modX_V1 hXe hs_e
                  refine lv_aload_n hx hb dX5_fails_154 rfl (lv_at hl 0 rfl) ?_
                  refine lv_iconst (v := nI 3) hx hb dX5_fails_155 (by decide) ?_
                  refine cl_ie (cl_run (rest := []) F hW e_X5_137 (m_goOn hI l hN hXe hA hMo hB hs_e hkT_e (by omega) 3 (by omega)) ⟨Nat.le_of_ble_eq_true rfl, Nat.le_of_ble_eq_true rfl⟩ (by omega) g136_e rfl rfl rfl hl (Nat.le_of_ble_eq_true rfl) dX5_fails_156 ⟨Nat.zero_le _, Nat.zero_le _⟩) hW (fun μ8 H locs q_8 hW => ?_)
                  obtain ⟨hX_8, ho_8⟩ := q_8
                  obtain ⟨rh_8, nx_8, f1_8, fn_8, frd_8, ft_8, fo_8, fa_8, frw_8, fh_8, fu_8, fb_8, fz_8, fkp_8, g136_8, g137_8, g138_8, g139_8, g140_8, g141_8, g142_8, g143_8, g144_8, g145_8, g146_8, g147_8, g148_8, hg_8, hv_8, ht_8, hnx_8, hrw_8, hse_8, hkp_8, hTr_8⟩ := id hX_8
                  have hs_8 : shp (hrs 3 (failL (AL S) i)) (AL S) := shp_tr (shp_hrs 3) hs_e
                  have hkT_8 := lok_hrs hkT_e 3
                  have hn_8 : Ln (hrs 3 (failL (AL S) i)) = Ln (AL S) := hs_8.1
                  have hV0_8 := modX_V0 hX_8
                  have hV1_8 := modX_V1 hX_8 hs_8
                  refine lv_pop hx hb dX5_fails_159 rfl ?_
                  refine lv_iload hx hb dX5_fails_160 (lv_at hl 5 rfl) ?_
                  refine lv_iload hx hb dX5_fails_162 (lv_at hl 7 rfl) ?_
                  refine nv_add F dX5_fails_164 ?_
                  refine lv_istore (lv' := [(5, .int (nI ((alS (LU (AL S)) x (Ln (AL S)) i) + (wgR (LU (AL S)) x i (Ln (AL S)))))), (0, .ref (xa cx 136)), (1, .int (nI v)), (2, .int (nI x)), (3, .int (b2 up)), (4, .int (nI (flS (AL S) v x i))), (6, .int (nI i)), (7, .int (nI (wgR (LU (AL S)) x i (Ln (AL S))))), (8, .int (nI ((Ln (AL S)))))]) hx hb dX5_fails_165 hl (by decide) rfl (fun ls hl => ?_)
                  refine lv_iload hx hb dX5_fails_167 (lv_at hl 5 rfl) ?_
                  refine lv_aload_n hx hb dX5_fails_169 rfl (lv_at hl 1 rfl) ?_
                  refine lv_iconst (v := nI 1) hx hb dX5_fails_170 (by decide) ?_
                  refine cl_ip (cl_run (rest := [.int (nI (flS (AL S) v x i))]) F hW e_X5_140 (m_standingOn hI l hN hV1_8 hkT_8 (by omega) (by omega)) ⟨Nat.le_of_ble_eq_true rfl, Nat.le_of_ble_eq_true rfl⟩ (by omega) g136_8 rfl rfl rfl hl (Nat.le_of_ble_eq_true rfl) dX5_fails_171 ⟨Nat.zero_le _, Nat.zero_le _⟩) hW (fun H locs hW => ?_)
                  refine cl_ip (cl_runS (rest := [.int (nI (flS (AL S) v x i))]) F hW e_X5_114 (m_ones hI l (LU (hrs 3 (failL (AL S) i))) (hrs_U6 (lok_failL hk _) _)) ⟨Nat.le_of_ble_eq_true rfl, Nat.le_of_ble_eq_true rfl⟩ rfl rfl hl (Nat.le_of_ble_eq_true rfl) dX5_fails_174 ⟨Nat.zero_le _, Nat.zero_le _⟩) hW (fun H locs hW => ?_)
                  refine lv_iload_n hx hb dX5_fails_177 rfl (lv_at hl 2 rfl) ?_
                  refine nv_clt (tgt := 186) F (by have := pop_le (LU (hrs 3 (failL (AL S) i))); omega) (by omega) dX5_fails_178 (by decide) (fun c_9 => ?_) (fun c_9 => ?_)
                  · skip
                    refine lv_iconst (v := nI 0) hx hb dX5_fails_186 (by decide) ?_
                    refine nv_add F dX5_fails_187 ?_
                    refine lv_istore (lv' := [(4, .int (nI ((flS (AL S) v x i) + 0))), (5, .int (nI ((alS (LU (AL S)) x (Ln (AL S)) i) + (wgR (LU (AL S)) x i (Ln (AL S)))))), (0, .ref (xa cx 136)), (1, .int (nI v)), (2, .int (nI x)), (3, .int (b2 up)), (6, .int (nI i)), (7, .int (nI (wgR (LU (AL S)) x i (Ln (AL S))))), (8, .int (nI ((Ln (AL S)))))]) hx hb dX5_fails_188 hl (by decide) rfl (fun ls hl => ?_)
                    refine lv_iinc (v := ((nI (i + 1)))) (lv' := [(6, .int (nI (i + 1))), (4, .int (nI ((flS (AL S) v x i) + 0))), (5, .int (nI ((alS (LU (AL S)) x (Ln (AL S)) i) + (wgR (LU (AL S)) x i (Ln (AL S)))))), (0, .ref (xa cx 136)), (1, .int (nI v)), (2, .int (nI x)), (3, .int (b2 up)), (7, .int (nI (wgR (LU (AL S)) x i (Ln (AL S))))), (8, .int (nI ((Ln (AL S)))))]) hx hb dX5_fails_190 hl (k := 6) rfl (nI_add _ _) (by decide) rfl (fun ls hl => ?_)
                    refine lv_goto (tgt := 36) hx hb dX5_fails_193 (by decide) ?_
                    have e1 : flS (AL S) v x (i + 1) = (flS (AL S) v x i) + 0 := by rw [flS_s hk (by omega) (by omega), if_neg (by show ¬ v ≤ pop (LU (hrs 3 (failL (AL S) i))); omega)]
                    exact ihA (i + 1) μ8 _ _ _ (by omega) (modX_tr hX_8 (fun _ _ => trivial)) (fun z hz => by rw [ho_8 z (by omega)]; rw [hoiLB z (by omega)]) hW (by rw [e1]; exact lv_sub hl [3, 4, 5, 6, 1, 2, 0] rfl)
                  · skip
                    refine lv_iload hx hb dX5_fails_181 (lv_at hl 7 rfl) ?_
                    refine lv_goto (tgt := 187) hx hb dX5_fails_183 (by decide) ?_
                    refine nv_add F dX5_fails_187 ?_
                    refine lv_istore (lv' := [(4, .int (nI ((flS (AL S) v x i) + (wgR (LU (AL S)) x i (Ln (AL S)))))), (5, .int (nI ((alS (LU (AL S)) x (Ln (AL S)) i) + (wgR (LU (AL S)) x i (Ln (AL S)))))), (0, .ref (xa cx 136)), (1, .int (nI v)), (2, .int (nI x)), (3, .int (b2 up)), (6, .int (nI i)), (7, .int (nI (wgR (LU (AL S)) x i (Ln (AL S))))), (8, .int (nI ((Ln (AL S)))))]) hx hb dX5_fails_188 hl (by decide) rfl (fun ls hl => ?_)
                    refine lv_iinc (v := ((nI (i + 1)))) (lv' := [(6, .int (nI (i + 1))), (4, .int (nI ((flS (AL S) v x i) + (wgR (LU (AL S)) x i (Ln (AL S)))))), (5, .int (nI ((alS (LU (AL S)) x (Ln (AL S)) i) + (wgR (LU (AL S)) x i (Ln (AL S)))))), (0, .ref (xa cx 136)), (1, .int (nI v)), (2, .int (nI x)), (3, .int (b2 up)), (7, .int (nI (wgR (LU (AL S)) x i (Ln (AL S))))), (8, .int (nI ((Ln (AL S)))))]) hx hb dX5_fails_190 hl (k := 6) rfl (nI_add _ _) (by decide) rfl (fun ls hl => ?_)
                    refine lv_goto (tgt := 36) hx hb dX5_fails_193 (by decide) ?_
                    have e1 : flS (AL S) v x (i + 1) = (flS (AL S) v x i) + (wgR (LU (AL S)) x i (Ln (AL S))) := by rw [flS_s hk (by omega) (by omega), if_pos (by show v ≤ pop (LU (hrs 3 (failL (AL S) i))); omega)]
                    exact ihA (i + 1) μ8 _ _ _ (by omega) (modX_tr hX_8 (fun _ _ => trivial)) (fun z hz => by rw [ho_8 z (by omega)]; rw [hoiLB z (by omega)]) hW (by rw [e1]; exact lv_sub hl [3, 4, 5, 6, 1, 2, 0] rfl)
                · skip
                  exact absurd c_7 (by omega)
              | succ db ihB =>
                intro k  μLB H locs ls hid hXiLB hoiLB hW hl
                obtain ⟨rh_b, nx_b, f1_b, fn_b, frd_b, ft_b, fo_b, fa_b, frw_b, fh_b, fu_b, fb_b, fz_b, fkp_b, g136_b, g137_b, g138_b, g139_b, g140_b, g141_b, g142_b, g143_b, g144_b, g145_b, g146_b, g147_b, g148_b, hg_b, hv_b, ht_b, hnx_b, hrw_b, hse_b, hkp_b, hTr_b⟩ := id hXiLB
                have hs_b : shp (faP (AL S) i k) (AL S) := shp_faP
                have hkT_b := lok_faP hk i k
                have hn_b : Ln (faP (AL S) i k) = Ln (AL S) := hs_b.1
                have hV0_b := modX_V0 hXiLB
                have hV1_b := modX_V1 hXiLB hs_b
                refine lv_iload hx hb dX5_fails_57 (lv_at hl 8 rfl) ?_
                refine lv_aload_n hx hb dX5_fails_59 rfl (lv_at hl 0 rfl) ?_
                refine nv_get F hW (by omega) g136_b rfl iX5 0 (by decide) tw_629 rfl dX5_fails_60 ?_
                refine nv_cge (tgt := 154) F (by omega) (by omega) dX5_fails_63 (by decide) (fun c_10 => ?_) (fun c_10 => ?_)
                · skip
                  exact absurd c_10 (by omega)
                · skip
                  refine lv_iload hx hb dX5_fails_66 (lv_at hl 6 rfl) ?_
                  refine lv_iload hx hb dX5_fails_68 (lv_at hl 8 rfl) ?_
                  refine cl_ip (cl_runS (rest := []) F hW e_X5_102 (m_has hI l i k (by omega) (by omega)) ⟨Nat.le_of_ble_eq_true rfl, Nat.le_of_ble_eq_true rfl⟩ rfl rfl hl (Nat.le_of_ble_eq_true rfl) dX5_fails_70 ⟨Nat.zero_le _, Nat.zero_le _⟩) hW (fun H locs hW => ?_)
                  refine lv_istore (lv' := [(9, .int (b2 (i.testBit k))), (0, .ref (xa cx 136)), (1, .int (nI v)), (2, .int (nI x)), (3, .int (b2 up)), (4, .int (nI (flS (AL S) v x i))), (5, .int (nI (alS (LU (AL S)) x (Ln (AL S)) i))), (6, .int (nI i)), (7, .int (nI (wgR (LU (AL S)) x i k))), (8, .int (nI k))]) hx hb dX5_fails_73 hl (by decide) rfl (fun ls hl => ?_)
                  refine lv_iload hx hb dX5_fails_75 (lv_at hl 8 rfl) ?_
                  refine lv_aload_n hx hb dX5_fails_77 rfl (lv_at hl 1 rfl) ?_
                  refine nv_get F hW (by omega) g136_b rfl iX5 2 (by decide) tw_631 rfl dX5_fails_78 ?_
                  refine lv_bipush (v := nI 18) hx hb dX5_fails_81 (by decide) ?_
                  refine lv_iload hx hb dX5_fails_83 (lv_at hl 9 rfl) ?_
                  refine nv_add F dX5_fails_85 ?_
                  refine nv_ialdN (x := ((b2 (lst (AL S) k)))) F hW (by omega) g138_b (by omega) (by decide) ((hv_b.1 k (by omega)).2.2.2.1.trans (b2_n _).symm) dX5_fails_86 ?_
                  refine nv_bne (tgt := 103) F dX5_fails_87 (by decide) (fun c_11 => ?_) (fun c_11 => ?_)
                  · skip
                    refine lv_iload hx hb dX5_fails_103 (lv_at hl 0 rfl) ?_
                    refine nv_beq (tgt := 112) F dX5_fails_105 (by decide) (fun c_12 => ?_) (fun c_12 => ?_)
                    · skip
                      refine lv_bipush (v := nI 10) hx hb dX5_fails_112 (by decide) ?_
                      refine lv_iload_n hx hb dX5_fails_114 rfl (lv_at hl 3 rfl) ?_
                      refine nv_sub F (by omega) dX5_fails_115 ?_
                      refine nv_mul F dX5_fails_116 ?_
                      refine lv_istore (lv' := [(7, .int (nI ((wgR (LU (AL S)) x i k) * (10 - x)))), (9, .int (b2 (i.testBit k))), (0, .ref (xa cx 136)), (1, .int (nI v)), (2, .int (nI x)), (3, .int (b2 up)), (4, .int (nI (flS (AL S) v x i))), (5, .int (nI (alS (LU (AL S)) x (Ln (AL S)) i))), (6, .int (nI i)), (8, .int (nI k))]) hx hb dX5_fails_117 hl (by decide) rfl (fun ls hl => ?_)
                      refine lv_aload_n hx hb dX5_fails_119 rfl (lv_at hl 2 rfl) ?_
                      refine nv_get F hW (by omega) g136_b rfl iX5 2 (by decide) tw_631 rfl dX5_fails_120 ?_
                      refine lv_bipush (v := nI 43) hx hb dX5_fails_123 (by decide) ?_
                      refine lv_iload hx hb dX5_fails_125 (lv_at hl 9 rfl) ?_
                      refine nv_add F dX5_fails_127 ?_
                      refine lv_iload hx hb dX5_fails_128 (lv_at hl 1 rfl) ?_
                      refine nv_beq (tgt := 137) F dX5_fails_130 (by decide) (fun c_13 => ?_) (fun c_13 => ?_)
                      · skip
                        refine lv_aload_n hx hb dX5_fails_137 rfl (lv_at hl 2 rfl) ?_
                        refine nv_get F hW (by omega) g136_b rfl iX5 2 (by decide) tw_631 rfl dX5_fails_138 ?_
                        refine lv_bipush (v := nI 12) hx hb dX5_fails_141 (by decide) ?_
                        refine lv_iload hx hb dX5_fails_143 (lv_at hl 9 rfl) ?_
                        refine nv_add F dX5_fails_145 ?_
                        refine nv_ialdN (x := ((nI (Ld (AL S) k)))) F hW (by omega) g138_b (by omega) (by decide) (hv_b.1 k (by omega)).2.2.1 dX5_fails_146 ?_
                        refine nv_iastN F hW (by omega) g138_b (by omega) (by decide) dX5_fails_147 (fun H locs hW => ?_)
                        obtain ⟨μ14, eμ14⟩ : ∃ zz9 : ME, zz9 = va_up μLB 138 (.inl (xT cx 0, 62, .inl (upd fn_b (43 + k) ((nI (Ld (AL S) k)))))) := ⟨_, rfl⟩
                        have hW : St cx s μ14 H locs := by rw [eμ14]; exact hW
                        have h136_14 := (congrFun eμ14 136).trans ((va_up_ne _ _ (by omega)).trans g136_b)
                        have h137_14 := (congrFun eμ14 137).trans ((va_up_ne _ _ (by omega)).trans g137_b)
                        have h138_14 : μ14 138 = .inl (xT cx 0, 62, .inl (upd fn_b (43 + k) ((nI (Ld (AL S) k))))) := by rw [eμ14, va_up_self]
                        have h139_14 := (congrFun eμ14 139).trans ((va_up_ne _ _ (by omega)).trans g139_b)
                        have h140_14 := (congrFun eμ14 140).trans ((va_up_ne _ _ (by omega)).trans g140_b)
                        have h141_14 := (congrFun eμ14 141).trans ((va_up_ne _ _ (by omega)).trans g141_b)
                        have h142_14 := (congrFun eμ14 142).trans ((va_up_ne _ _ (by omega)).trans g142_b)
                        have h143_14 := (congrFun eμ14 143).trans ((va_up_ne _ _ (by omega)).trans g143_b)
                        have h144_14 := (congrFun eμ14 144).trans ((va_up_ne _ _ (by omega)).trans g144_b)
                        have h145_14 := (congrFun eμ14 145).trans ((va_up_ne _ _ (by omega)).trans g145_b)
                        have h146_14 := (congrFun eμ14 146).trans ((va_up_ne _ _ (by omega)).trans g146_b)
                        have h147_14 := (congrFun eμ14 147).trans ((va_up_ne _ _ (by omega)).trans g147_b)
                        have h148_14 := (congrFun eμ14 148).trans ((va_up_ne _ _ (by omega)).trans g148_b)
                        have hX_t14 : modX cx μ14 S (fun fn => lv fn 31 (faP (AL S) i (k + 1))) := modX_138 hXiLB hn6 g138_b eμ14 (fun z hz => upd_ne (by omega)) (lv_faP (o := 31) hTr_b hn6 (by omega) (by rw [‹i.testBit k = _›]; rfl))
                        obtain ⟨rh_t14, nx_t14, f1_t14, fn_t14, frd_t14, ft_t14, fo_t14, fa_t14, frw_t14, fh_t14, fu_t14, fb_t14, fz_t14, fkp_t14, g136_t14, g137_t14, g138_t14, g139_t14, g140_t14, g141_t14, g142_t14, g143_t14, g144_t14, g145_t14, g146_t14, g147_t14, g148_t14, hg_t14, hv_t14, ht_t14, hnx_t14, hrw_t14, hse_t14, hkp_t14, hTr_t14⟩ := id hX_t14
                        have hs_t14 : shp (faP (AL S) i (k + 1)) (AL S) := shp_faP
                        have hkT_t14 := lok_faP hk i (k + 1)
                        have hn_t14 : Ln (faP (AL S) i (k + 1)) = Ln (AL S) := hs_t14.1
                        have hV0_t14 := modX_V0 hX_t14
                        have hV1_t14 := modX_V1 hX_t14 hs_t14
                        refine lv_iinc (v := ((nI (k + 1)))) (lv' := [(8, .int (nI (k + 1))), (7, .int (nI ((wgR (LU (AL S)) x i k) * (10 - x)))), (9, .int (b2 (i.testBit k))), (0, .ref (xa cx 136)), (1, .int (nI v)), (2, .int (nI x)), (3, .int (b2 up)), (4, .int (nI (flS (AL S) v x i))), (5, .int (nI (alS (LU (AL S)) x (Ln (AL S)) i))), (6, .int (nI i))]) hx hb dX5_fails_148 hl (k := 9) rfl (nI_add _ _) (by decide) rfl (fun ls hl => ?_)
                        refine lv_goto (tgt := 57) hx hb dX5_fails_151 (by decide) ?_
                        have e7 : wgR (LU (AL S)) x i (k + 1) = (wgR (LU (AL S)) x i k) * (10 - x) := by show wgR (LU (AL S)) x i k * wgB (LU (AL S)) x i k = _; unfold wgB; rw [← lst_bit hk, ‹lst (AL S) k = _›, ‹i.testBit k = _›]; rfl
                        exact ihB (k + 1) μ14 _ _ _ (by omega) hX_t14 (fun z hz => by rw [eμ14, va_up_ne _ _ (by omega)]; rw [hoiLB z (by omega)]) hW (by rw [e7]; exact lv_sub hl [3, 4, 5, 6, 7, 8, 9, 1, 0] rfl)
                      · skip
                        exact absurd ((show i.testBit k = false by assumption).symm.trans c_13) (by decide)
                    · skip
                      refine lv_iload_n hx hb dX5_fails_108 rfl (lv_at hl 3 rfl) ?_
                      refine lv_goto (tgt := 116) hx hb dX5_fails_109 (by decide) ?_
                      refine nv_mul F dX5_fails_116 ?_
                      refine lv_istore (lv' := [(7, .int (nI ((wgR (LU (AL S)) x i k) * x))), (9, .int (b2 (i.testBit k))), (0, .ref (xa cx 136)), (1, .int (nI v)), (2, .int (nI x)), (3, .int (b2 up)), (4, .int (nI (flS (AL S) v x i))), (5, .int (nI (alS (LU (AL S)) x (Ln (AL S)) i))), (6, .int (nI i)), (8, .int (nI k))]) hx hb dX5_fails_117 hl (by decide) rfl (fun ls hl => ?_)
                      refine lv_aload_n hx hb dX5_fails_119 rfl (lv_at hl 2 rfl) ?_
                      refine nv_get F hW (by omega) g136_b rfl iX5 2 (by decide) tw_631 rfl dX5_fails_120 ?_
                      refine lv_bipush (v := nI 43) hx hb dX5_fails_123 (by decide) ?_
                      refine lv_iload hx hb dX5_fails_125 (lv_at hl 9 rfl) ?_
                      refine nv_add F dX5_fails_127 ?_
                      refine lv_iload hx hb dX5_fails_128 (lv_at hl 1 rfl) ?_
                      refine nv_beq (tgt := 137) F dX5_fails_130 (by decide) (fun c_15 => ?_) (fun c_15 => ?_)
                      · skip
                        exact absurd ((show i.testBit k = true by assumption).symm.trans c_15) (by decide)
                      · skip
                        refine lv_iconst (v := nI 3) hx hb dX5_fails_133 (by decide) ?_
                        refine lv_goto (tgt := 147) hx hb dX5_fails_134 (by decide) ?_
                        refine nv_iastN F hW (by omega) g138_b (by omega) (by decide) dX5_fails_147 (fun H locs hW => ?_)
                        obtain ⟨μ16, eμ16⟩ : ∃ zz9 : ME, zz9 = va_up μLB 138 (.inl (xT cx 0, 62, .inl (upd fn_b (43 + k) ((nI 3))))) := ⟨_, rfl⟩
                        have hW : St cx s μ16 H locs := by rw [eμ16]; exact hW
                        have h136_16 := (congrFun eμ16 136).trans ((va_up_ne _ _ (by omega)).trans g136_b)
                        have h137_16 := (congrFun eμ16 137).trans ((va_up_ne _ _ (by omega)).trans g137_b)
                        have h138_16 : μ16 138 = .inl (xT cx 0, 62, .inl (upd fn_b (43 + k) ((nI 3)))) := by rw [eμ16, va_up_self]
                        have h139_16 := (congrFun eμ16 139).trans ((va_up_ne _ _ (by omega)).trans g139_b)
                        have h140_16 := (congrFun eμ16 140).trans ((va_up_ne _ _ (by omega)).trans g140_b)
                        have h141_16 := (congrFun eμ16 141).trans ((va_up_ne _ _ (by omega)).trans g141_b)
                        have h142_16 := (congrFun eμ16 142).trans ((va_up_ne _ _ (by omega)).trans g142_b)
                        have h143_16 := (congrFun eμ16 143).trans ((va_up_ne _ _ (by omega)).trans g143_b)
                        have h144_16 := (congrFun eμ16 144).trans ((va_up_ne _ _ (by omega)).trans g144_b)
                        have h145_16 := (congrFun eμ16 145).trans ((va_up_ne _ _ (by omega)).trans g145_b)
                        have h146_16 := (congrFun eμ16 146).trans ((va_up_ne _ _ (by omega)).trans g146_b)
                        have h147_16 := (congrFun eμ16 147).trans ((va_up_ne _ _ (by omega)).trans g147_b)
                        have h148_16 := (congrFun eμ16 148).trans ((va_up_ne _ _ (by omega)).trans g148_b)
                        have hX_t16 : modX cx μ16 S (fun fn => lv fn 31 (faP (AL S) i (k + 1))) := modX_138 hXiLB hn6 g138_b eμ16 (fun z hz => upd_ne (by omega)) (lv_faP (o := 31) hTr_b hn6 (by omega) (by rw [‹i.testBit k = _›]; rfl))
                        obtain ⟨rh_t16, nx_t16, f1_t16, fn_t16, frd_t16, ft_t16, fo_t16, fa_t16, frw_t16, fh_t16, fu_t16, fb_t16, fz_t16, fkp_t16, g136_t16, g137_t16, g138_t16, g139_t16, g140_t16, g141_t16, g142_t16, g143_t16, g144_t16, g145_t16, g146_t16, g147_t16, g148_t16, hg_t16, hv_t16, ht_t16, hnx_t16, hrw_t16, hse_t16, hkp_t16, hTr_t16⟩ := id hX_t16
                        have hs_t16 : shp (faP (AL S) i (k + 1)) (AL S) := shp_faP
                        have hkT_t16 := lok_faP hk i (k + 1)
                        have hn_t16 : Ln (faP (AL S) i (k + 1)) = Ln (AL S) := hs_t16.1
                        have hV0_t16 := modX_V0 hX_t16
                        have hV1_t16 := modX_V1 hX_t16 hs_t16
                        refine lv_iinc (v := ((nI (k + 1)))) (lv' := [(8, .int (nI (k + 1))), (7, .int (nI ((wgR (LU (AL S)) x i k) * x))), (9, .int (b2 (i.testBit k))), (0, .ref (xa cx 136)), (1, .int (nI v)), (2, .int (nI x)), (3, .int (b2 up)), (4, .int (nI (flS (AL S) v x i))), (5, .int (nI (alS (LU (AL S)) x (Ln (AL S)) i))), (6, .int (nI i))]) hx hb dX5_fails_148 hl (k := 9) rfl (nI_add _ _) (by decide) rfl (fun ls hl => ?_)
                        refine lv_goto (tgt := 57) hx hb dX5_fails_151 (by decide) ?_
                        have e7 : wgR (LU (AL S)) x i (k + 1) = (wgR (LU (AL S)) x i k) * x := by show wgR (LU (AL S)) x i k * wgB (LU (AL S)) x i k = _; unfold wgB; rw [← lst_bit hk, ‹lst (AL S) k = _›, ‹i.testBit k = _›]; rfl
                        exact ihB (k + 1) μ16 _ _ _ (by omega) hX_t16 (fun z hz => by rw [eμ16, va_up_ne _ _ (by omega)]; rw [hoiLB z (by omega)]) hW (by rw [e7]; exact lv_sub hl [3, 4, 5, 6, 7, 8, 9, 1, 0] rfl)
                  · skip
                    refine lv_iload hx hb dX5_fails_90 (lv_at hl 0 rfl) ?_
                    refine nv_beq (tgt := 99) F dX5_fails_92 (by decide) (fun c_17 => ?_) (fun c_17 => ?_)
                    · skip
                      refine lv_iconst (v := nI 1) hx hb dX5_fails_99 (by decide) ?_
                      refine lv_goto (tgt := 116) hx hb dX5_fails_100 (by decide) ?_
                      refine nv_mul F dX5_fails_116 ?_
                      refine lv_istore (lv' := [(7, .int (nI ((wgR (LU (AL S)) x i k) * 1))), (9, .int (b2 (i.testBit k))), (0, .ref (xa cx 136)), (1, .int (nI v)), (2, .int (nI x)), (3, .int (b2 up)), (4, .int (nI (flS (AL S) v x i))), (5, .int (nI (alS (LU (AL S)) x (Ln (AL S)) i))), (6, .int (nI i)), (8, .int (nI k))]) hx hb dX5_fails_117 hl (by decide) rfl (fun ls hl => ?_)
                      refine lv_aload_n hx hb dX5_fails_119 rfl (lv_at hl 2 rfl) ?_
                      refine nv_get F hW (by omega) g136_b rfl iX5 2 (by decide) tw_631 rfl dX5_fails_120 ?_
                      refine lv_bipush (v := nI 43) hx hb dX5_fails_123 (by decide) ?_
                      refine lv_iload hx hb dX5_fails_125 (lv_at hl 9 rfl) ?_
                      refine nv_add F dX5_fails_127 ?_
                      refine lv_iload hx hb dX5_fails_128 (lv_at hl 1 rfl) ?_
                      refine nv_beq (tgt := 137) F dX5_fails_130 (by decide) (fun c_18 => ?_) (fun c_18 => ?_)
                      · skip
                        refine lv_aload_n hx hb dX5_fails_137 rfl (lv_at hl 2 rfl) ?_
                        refine nv_get F hW (by omega) g136_b rfl iX5 2 (by decide) tw_631 rfl dX5_fails_138 ?_
                        refine lv_bipush (v := nI 12) hx hb dX5_fails_141 (by decide) ?_
                        refine lv_iload hx hb dX5_fails_143 (lv_at hl 9 rfl) ?_
                        refine nv_add F dX5_fails_145 ?_
                        refine nv_ialdN (x := ((nI (Ld (AL S) k)))) F hW (by omega) g138_b (by omega) (by decide) (hv_b.1 k (by omega)).2.2.1 dX5_fails_146 ?_
                        refine nv_iastN F hW (by omega) g138_b (by omega) (by decide) dX5_fails_147 (fun H locs hW => ?_)
                        obtain ⟨μ19, eμ19⟩ : ∃ zz9 : ME, zz9 = va_up μLB 138 (.inl (xT cx 0, 62, .inl (upd fn_b (43 + k) ((nI (Ld (AL S) k)))))) := ⟨_, rfl⟩
                        have hW : St cx s μ19 H locs := by rw [eμ19]; exact hW
                        have h136_19 := (congrFun eμ19 136).trans ((va_up_ne _ _ (by omega)).trans g136_b)
                        have h137_19 := (congrFun eμ19 137).trans ((va_up_ne _ _ (by omega)).trans g137_b)
                        have h138_19 : μ19 138 = .inl (xT cx 0, 62, .inl (upd fn_b (43 + k) ((nI (Ld (AL S) k))))) := by rw [eμ19, va_up_self]
                        have h139_19 := (congrFun eμ19 139).trans ((va_up_ne _ _ (by omega)).trans g139_b)
                        have h140_19 := (congrFun eμ19 140).trans ((va_up_ne _ _ (by omega)).trans g140_b)
                        have h141_19 := (congrFun eμ19 141).trans ((va_up_ne _ _ (by omega)).trans g141_b)
                        have h142_19 := (congrFun eμ19 142).trans ((va_up_ne _ _ (by omega)).trans g142_b)
                        have h143_19 := (congrFun eμ19 143).trans ((va_up_ne _ _ (by omega)).trans g143_b)
                        have h144_19 := (congrFun eμ19 144).trans ((va_up_ne _ _ (by omega)).trans g144_b)
                        have h145_19 := (congrFun eμ19 145).trans ((va_up_ne _ _ (by omega)).trans g145_b)
                        have h146_19 := (congrFun eμ19 146).trans ((va_up_ne _ _ (by omega)).trans g146_b)
                        have h147_19 := (congrFun eμ19 147).trans ((va_up_ne _ _ (by omega)).trans g147_b)
                        have h148_19 := (congrFun eμ19 148).trans ((va_up_ne _ _ (by omega)).trans g148_b)
                        have hX_t19 : modX cx μ19 S (fun fn => lv fn 31 (faP (AL S) i (k + 1))) := modX_138 hXiLB hn6 g138_b eμ19 (fun z hz => upd_ne (by omega)) (lv_faP (o := 31) hTr_b hn6 (by omega) (by rw [‹i.testBit k = _›]; rfl))
                        obtain ⟨rh_t19, nx_t19, f1_t19, fn_t19, frd_t19, ft_t19, fo_t19, fa_t19, frw_t19, fh_t19, fu_t19, fb_t19, fz_t19, fkp_t19, g136_t19, g137_t19, g138_t19, g139_t19, g140_t19, g141_t19, g142_t19, g143_t19, g144_t19, g145_t19, g146_t19, g147_t19, g148_t19, hg_t19, hv_t19, ht_t19, hnx_t19, hrw_t19, hse_t19, hkp_t19, hTr_t19⟩ := id hX_t19
                        have hs_t19 : shp (faP (AL S) i (k + 1)) (AL S) := shp_faP
                        have hkT_t19 := lok_faP hk i (k + 1)
                        have hn_t19 : Ln (faP (AL S) i (k + 1)) = Ln (AL S) := hs_t19.1
                        have hV0_t19 := modX_V0 hX_t19
                        have hV1_t19 := modX_V1 hX_t19 hs_t19
                        refine lv_iinc (v := ((nI (k + 1)))) (lv' := [(8, .int (nI (k + 1))), (7, .int (nI ((wgR (LU (AL S)) x i k) * 1))), (9, .int (b2 (i.testBit k))), (0, .ref (xa cx 136)), (1, .int (nI v)), (2, .int (nI x)), (3, .int (b2 up)), (4, .int (nI (flS (AL S) v x i))), (5, .int (nI (alS (LU (AL S)) x (Ln (AL S)) i))), (6, .int (nI i))]) hx hb dX5_fails_148 hl (k := 9) rfl (nI_add _ _) (by decide) rfl (fun ls hl => ?_)
                        refine lv_goto (tgt := 57) hx hb dX5_fails_151 (by decide) ?_
                        have e7 : wgR (LU (AL S)) x i (k + 1) = (wgR (LU (AL S)) x i k) * 1 := by show wgR (LU (AL S)) x i k * wgB (LU (AL S)) x i k = _; unfold wgB; rw [← lst_bit hk, ‹lst (AL S) k = _›, ‹i.testBit k = _›]; rfl
                        exact ihB (k + 1) μ19 _ _ _ (by omega) hX_t19 (fun z hz => by rw [eμ19, va_up_ne _ _ (by omega)]; rw [hoiLB z (by omega)]) hW (by rw [e7]; exact lv_sub hl [3, 4, 5, 6, 7, 8, 9, 1, 0] rfl)
                      · skip
                        exact absurd ((show i.testBit k = false by assumption).symm.trans c_18) (by decide)
                    · skip
                      refine lv_iconst (v := nI 0) hx hb dX5_fails_95 (by decide) ?_
                      refine lv_goto (tgt := 116) hx hb dX5_fails_96 (by decide) ?_
                      refine nv_mul F dX5_fails_116 ?_
                      refine lv_istore (lv' := [(7, .int (nI ((wgR (LU (AL S)) x i k) * 0))), (9, .int (b2 (i.testBit k))), (0, .ref (xa cx 136)), (1, .int (nI v)), (2, .int (nI x)), (3, .int (b2 up)), (4, .int (nI (flS (AL S) v x i))), (5, .int (nI (alS (LU (AL S)) x (Ln (AL S)) i))), (6, .int (nI i)), (8, .int (nI k))]) hx hb dX5_fails_117 hl (by decide) rfl (fun ls hl => ?_)
                      refine lv_aload_n hx hb dX5_fails_119 rfl (lv_at hl 2 rfl) ?_
                      refine nv_get F hW (by omega) g136_b rfl iX5 2 (by decide) tw_631 rfl dX5_fails_120 ?_
                      refine lv_bipush (v := nI 43) hx hb dX5_fails_123 (by decide) ?_
                      refine lv_iload hx hb dX5_fails_125 (lv_at hl 9 rfl) ?_
                      refine nv_add F dX5_fails_127 ?_
                      refine lv_iload hx hb dX5_fails_128 (lv_at hl 1 rfl) ?_
                      refine nv_beq (tgt := 137) F dX5_fails_130 (by decide) (fun c_20 => ?_) (fun c_20 => ?_)
                      · skip
                        exact absurd ((show i.testBit k = true by assumption).symm.trans c_20) (by decide)
                      · skip
                        refine lv_iconst (v := nI 3) hx hb dX5_fails_133 (by decide) ?_
                        refine lv_goto (tgt := 147) hx hb dX5_fails_134 (by decide) ?_
                        refine nv_iastN F hW (by omega) g138_b (by omega) (by decide) dX5_fails_147 (fun H locs hW => ?_)
                        obtain ⟨μ21, eμ21⟩ : ∃ zz9 : ME, zz9 = va_up μLB 138 (.inl (xT cx 0, 62, .inl (upd fn_b (43 + k) ((nI 3))))) := ⟨_, rfl⟩
                        have hW : St cx s μ21 H locs := by rw [eμ21]; exact hW
                        have h136_21 := (congrFun eμ21 136).trans ((va_up_ne _ _ (by omega)).trans g136_b)
                        have h137_21 := (congrFun eμ21 137).trans ((va_up_ne _ _ (by omega)).trans g137_b)
                        have h138_21 : μ21 138 = .inl (xT cx 0, 62, .inl (upd fn_b (43 + k) ((nI 3)))) := by rw [eμ21, va_up_self]
                        have h139_21 := (congrFun eμ21 139).trans ((va_up_ne _ _ (by omega)).trans g139_b)
                        have h140_21 := (congrFun eμ21 140).trans ((va_up_ne _ _ (by omega)).trans g140_b)
                        have h141_21 := (congrFun eμ21 141).trans ((va_up_ne _ _ (by omega)).trans g141_b)
                        have h142_21 := (congrFun eμ21 142).trans ((va_up_ne _ _ (by omega)).trans g142_b)
                        have h143_21 := (congrFun eμ21 143).trans ((va_up_ne _ _ (by omega)).trans g143_b)
                        have h144_21 := (congrFun eμ21 144).trans ((va_up_ne _ _ (by omega)).trans g144_b)
                        have h145_21 := (congrFun eμ21 145).trans ((va_up_ne _ _ (by omega)).trans g145_b)
                        have h146_21 := (congrFun eμ21 146).trans ((va_up_ne _ _ (by omega)).trans g146_b)
                        have h147_21 := (congrFun eμ21 147).trans ((va_up_ne _ _ (by omega)).trans g147_b)
                        have h148_21 := (congrFun eμ21 148).trans ((va_up_ne _ _ (by omega)).trans g148_b)
                        have hX_t21 : modX cx μ21 S (fun fn => lv fn 31 (faP (AL S) i (k + 1))) := modX_138 hXiLB hn6 g138_b eμ21 (fun z hz => upd_ne (by omega)) (lv_faP (o := 31) hTr_b hn6 (by omega) (by rw [‹i.testBit k = _›]; rfl))
                        obtain ⟨rh_t21, nx_t21, f1_t21, fn_t21, frd_t21, ft_t21, fo_t21, fa_t21, frw_t21, fh_t21, fu_t21, fb_t21, fz_t21, fkp_t21, g136_t21, g137_t21, g138_t21, g139_t21, g140_t21, g141_t21, g142_t21, g143_t21, g144_t21, g145_t21, g146_t21, g147_t21, g148_t21, hg_t21, hv_t21, ht_t21, hnx_t21, hrw_t21, hse_t21, hkp_t21, hTr_t21⟩ := id hX_t21
                        have hs_t21 : shp (faP (AL S) i (k + 1)) (AL S) := shp_faP
                        have hkT_t21 := lok_faP hk i (k + 1)
                        have hn_t21 : Ln (faP (AL S) i (k + 1)) = Ln (AL S) := hs_t21.1
                        have hV0_t21 := modX_V0 hX_t21
                        have hV1_t21 := modX_V1 hX_t21 hs_t21
                        refine lv_iinc (v := ((nI (k + 1)))) (lv' := [(8, .int (nI (k + 1))), (7, .int (nI ((wgR (LU (AL S)) x i k) * 0))), (9, .int (b2 (i.testBit k))), (0, .ref (xa cx 136)), (1, .int (nI v)), (2, .int (nI x)), (3, .int (b2 up)), (4, .int (nI (flS (AL S) v x i))), (5, .int (nI (alS (LU (AL S)) x (Ln (AL S)) i))), (6, .int (nI i))]) hx hb dX5_fails_148 hl (k := 9) rfl (nI_add _ _) (by decide) rfl (fun ls hl => ?_)
                        refine lv_goto (tgt := 57) hx hb dX5_fails_151 (by decide) ?_
                        have e7 : wgR (LU (AL S)) x i (k + 1) = (wgR (LU (AL S)) x i k) * 0 := by show wgR (LU (AL S)) x i k * wgB (LU (AL S)) x i k = _; unfold wgB; rw [← lst_bit hk, ‹lst (AL S) k = _›, ‹i.testBit k = _›]; rfl
                        exact ihB (k + 1) μ21 _ _ _ (by omega) hX_t21 (fun z hz => by rw [eμ21, va_up_ne _ _ (by omega)]; rw [hoiLB z (by omega)]) hW (by rw [e7]; exact lv_sub hl [3, 4, 5, 6, 7, 8, 9, 1, 0] rfl)
            exact LB (Ln (AL S)) 0 μ6 _ _ _ (by omega) (modX_tr hX_6 (fun f9 h9 => faP_0 h9)) (fun z hz => by rw [ho_6 z (by omega)]; rw [hoiLA z (by omega)]) hW (lv_sub hl [2, 3, 4, 5, 6, 7, 8, 1, 0] rfl)
      exact LA (2 ^ Ln (AL S)) 0 μ _ _ _ (by omega) (modX_tr hX (fun _ _ => trivial)) off_rf hW (lv_sub hl [3, 4, 5, 6, 2, 1, 0] rfl)
    · skip
      refine lv_bipush (v := (-2)) hx hb dX5_fails_24 (by decide) ?_
      exact rt_ie F hr hlk hW (by unfold r_fails; first | (rw [‹inR vv 7 = false›]; rfl) | (rw [‹inR xx 11 = false›, Bool.and_false]; rfl)) ⟨(modX_tr hX (fun _ _ => trivial)), off_rf⟩ dX5_fails_26
