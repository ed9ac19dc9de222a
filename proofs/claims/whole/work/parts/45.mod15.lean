set_option maxHeartbeats 4000000 in
set_option maxRecDepth 100000 in
theorem m_factorial {cx : CX} (hI : xI cx) (l : Launch) {μ : ME} (n : Nat) (hn : n ≤ 100) : MT cx l yX5_factorial cX5_factorial 3 (some .int) 0 0 [.int (nI n)] μ (Pi cx μ (nI (fct n))) := by
  refine mt_of hI (by decide) (Nat.le_of_ble_eq_true rfl) ?_
  intro p e s m below meth c ls F hr hlk hW hl
  have hx := F.1.1
  have hb := F.1.2.1
  have hts := F.1.2.2.2.2
  have hl : lv_has ls 3 [(0, .int (nI n))] := hl
  refine lv_iconst (v := nI 1) hx hb dX5_factorial_0 (by decide) ?_
  refine lv_istore_n (lv' := [(1, .int (nI 1)), (0, .int (nI n))]) hx hb dX5_factorial_1 rfl hl (by decide) rfl (fun ls hl => ?_)
  refine lv_iconst (v := nI 2) hx hb dX5_factorial_2 (by decide) ?_
  refine lv_istore_n (lv' := [(2, .int (nI 2)), (1, .int (nI 1)), (0, .int (nI n))]) hx hb dX5_factorial_3 rfl hl (by decide) rfl (fun ls hl => ?_)
  have LOOP : ∀ (d i : Nat)  (H : Heap) (locs : List Loc) (ls : Array Slot), i + d = max 1 n + 1 → (2 ≤ i) → St cx s μ H locs → lv_has ls 3 [(0, .int (nI n)), (1, .int (nI (fct (i - 1)))), (2, .int (nI i))] → W p l e { frames := 0, cells := 0, slots := 0, locals := 0 } s m [.int (nI n)].toArray below meth c H locs 0 0 (MQ below (Pi cx μ (nI (fct n))) [.int (nI n)].toArray s 0 0 (xA cx)) (F0 m 4 ls []) := by
    intro d
    induction d with
    | zero =>
      intro i   H locs ls hid hi2 hW hl
      refine lv_iload_n hx hb dX5_factorial_4 rfl (lv_at hl 2 rfl) ?_
      refine lv_iload_n hx hb dX5_factorial_5 rfl (lv_at hl 0 rfl) ?_
      refine nv_cgt (tgt := 19) F (by omega) (by omega) dX5_factorial_6 (by decide) (fun c_1 => ?_) (fun c_1 => ?_)
      · skip
        refine lv_iload_n hx hb dX5_factorial_19 rfl (lv_at hl 1 rfl) ?_
        exact rt_ip F hr hlk hW (by rw [show i - 1 = max 1 n by omega, fct_max]) rfl dX5_factorial_20
      · skip
        exact absurd c_1 (by omega)
    | succ d ih =>
      intro i   H locs ls hid hi2 hW hl
      refine lv_iload_n hx hb dX5_factorial_4 rfl (lv_at hl 2 rfl) ?_
      refine lv_iload_n hx hb dX5_factorial_5 rfl (lv_at hl 0 rfl) ?_
      refine nv_cgt (tgt := 19) F (by omega) (by omega) dX5_factorial_6 (by decide) (fun c_2 => ?_) (fun c_2 => ?_)
      · skip
        exact absurd c_2 (by omega)
      · skip
        refine lv_iload_n hx hb dX5_factorial_9 rfl (lv_at hl 1 rfl) ?_
        refine lv_iload_n hx hb dX5_factorial_10 rfl (lv_at hl 2 rfl) ?_
        refine nv_mul F dX5_factorial_11 ?_
        refine lv_istore_n (lv' := [(1, .int (nI ((fct (i - 1)) * i))), (0, .int (nI n)), (2, .int (nI i))]) hx hb dX5_factorial_12 rfl hl (by decide) rfl (fun ls hl => ?_)
        refine lv_iinc (v := ((nI (i + 1)))) (lv' := [(2, .int (nI (i + 1))), (1, .int (nI ((fct (i - 1)) * i))), (0, .int (nI n))]) hx hb dX5_factorial_13 hl (k := 2) rfl (nI_add _ _) (by decide) rfl (fun ls hl => ?_)
        refine lv_goto (tgt := 4) hx hb dX5_factorial_16 (by decide) ?_
        exact ih (i + 1) _ _ _ (by omega) (by omega) hW (by rw [show fct (i + 1 - 1) = fct (i - 1) * i by rw [Nat.mul_comm, show i + 1 - 1 = (i - 1) + 1 by omega]; show (i - 1 + 1) * fct (i - 1) = _; rw [show i - 1 + 1 = i by omega]]; exact lv_sub hl [2, 1, 0] rfl)
  exact LOOP (max 1 n - 1) 2 _ _ _ (by omega) (by omega) hW (lv_sub hl [2, 1, 0] rfl)

theorem iI_neg9 {z : Int} (h1 : -2147483648 < z) (h2 : z < 2147483648) (h : ¬ 0 ≤ iI z) : - iI z = nI z.natAbs := by
  have e := iI_abs h1 h2
  rw [if_neg h, Int32.zero_sub] at e
  exact e
theorem iI_pos9 {z : Int} (h1 : -2147483648 < z) (h2 : z < 2147483648) (h : 0 ≤ iI z) : iI z = nI z.natAbs := by
  have e := iI_abs h1 h2
  rw [if_pos h] at e
  exact e

set_option maxHeartbeats 4000000 in
set_option maxRecDepth 100000 in
theorem m_common {cx : CX} (hI : xI cx) (l : Launch) {μ : ME} (z : Int) (b : Nat) (hz1 : -2147483648 < z) (hz2 : z < 2147483648) (hbb : b < 2147483648) : MT cx l yX5_common cX5_common 5 (some .int) 0 0 [.int (iI z), .int (nI b)] μ (Pi cx μ (nI (Nat.gcd z.natAbs b))) := by
  refine mt_of hI (by decide) (Nat.le_of_ble_eq_true rfl) ?_
  intro p e s m below meth c ls F hr hlk hW hl
  have hx := F.1.1
  have hb := F.1.2.1
  have hts := F.1.2.2.2.2
  have hl : lv_has ls 5 [(0, .int (iI z)), (1, .int (nI b))] := hl
  refine lv_iload_n hx hb dX5_common_0 rfl (lv_at hl 0 rfl) ?_
  refine lv_if_ge (tgt := 9) hx hb dX5_common_1 (by decide) (fun c_1 => ?_) (fun c_1 => ?_)
  · skip
    refine lv_iload_n hx hb dX5_common_9 rfl (lv_at hl 0 rfl) ?_
    refine nv_top (y := ((nI (z.natAbs)))) (iI_pos9 hz1 hz2 (by assumption)) ?_
    refine lv_istore_n (lv' := [(2, .int (nI (z.natAbs))), (0, .int (iI z)), (1, .int (nI b))]) hx hb dX5_common_10 rfl hl (by decide) rfl (fun ls hl => ?_)
    refine lv_iload_n hx hb dX5_common_11 rfl (lv_at hl 2 rfl) ?_
    refine lv_istore_n (lv' := [(3, .int (nI b)), (2, .int (nI (z.natAbs))), (0, .int (iI z)), (1, .int (nI b))]) hx hb dX5_common_12 rfl hl (by decide) rfl (fun ls hl => ?_)
    have LOOP : ∀ (d i : Nat) (x : Nat) (y : Nat) (H : Heap) (locs : List Loc) (ls : Array Slot), i + d = b → (Nat.gcd x y = Nat.gcd z.natAbs b) → (y ≤ d) → (x < 2147483648) → (y < 2147483648) → St cx s μ H locs → lv_has ls 5 [(2, .int (nI x)), (3, .int (nI y))] → W p l e { frames := 0, cells := 0, slots := 0, locals := 0 } s m [.int (iI z), .int (nI b)].toArray below meth c H locs 0 0 (MQ below (Pi cx μ (nI (Nat.gcd z.natAbs b))) [.int (iI z), .int (nI b)].toArray s 0 0 (xA cx)) (F0 m 13 ls []) := by
      intro d
      induction d with
      | zero =>
        intro i x y  H locs ls hid hgc hyd hxb hyb hW hl
        refine lv_iload_n hx hb dX5_common_13 rfl (lv_at hl 1 rfl) ?_
        refine nv_zeq (tgt := 30) F (by omega) dX5_common_14 (by decide) (fun c_2 => ?_) (fun c_2 => ?_)
        · skip
          refine lv_iload_n hx hb dX5_common_30 rfl (lv_at hl 0 rfl) ?_
          exact rt_ip F hr hlk hW (by rw [← hgc, show y = 0 by omega, Nat.gcd_zero_right]) rfl dX5_common_31
        · skip
          exact absurd c_2 (by omega)
      | succ d ih =>
        intro i x y  H locs ls hid hgc hyd hxb hyb hW hl
        refine lv_iload_n hx hb dX5_common_13 rfl (lv_at hl 1 rfl) ?_
        refine nv_zeq (tgt := 30) F (by omega) dX5_common_14 (by decide) (fun c_3 => ?_) (fun c_3 => ?_)
        · skip
          refine lv_iload_n hx hb dX5_common_30 rfl (lv_at hl 0 rfl) ?_
          exact rt_ip F hr hlk hW (by rw [← hgc, show y = 0 by omega, Nat.gcd_zero_right]) rfl dX5_common_31
        · skip
          refine lv_iload_n hx hb dX5_common_17 rfl (lv_at hl 0 rfl) ?_
          refine lv_iload_n hx hb dX5_common_18 rfl (lv_at hl 1 rfl) ?_
          refine nv_rem F (by omega) (by omega) (by omega) dX5_common_19 ?_
          refine lv_istore (lv' := [(4, .int (nI (x % y))), (2, .int (nI x)), (3, .int (nI y))]) hx hb dX5_common_20 hl (by decide) rfl (fun ls hl => ?_)
          refine lv_iload_n hx hb dX5_common_22 rfl (lv_at hl 2 rfl) ?_
          refine lv_istore_n (lv' := [(2, .int (nI y)), (4, .int (nI (x % y))), (3, .int (nI y))]) hx hb dX5_common_23 rfl hl (by decide) rfl (fun ls hl => ?_)
          refine lv_iload hx hb dX5_common_24 (lv_at hl 1 rfl) ?_
          refine lv_istore_n (lv' := [(3, .int (nI (x % y))), (2, .int (nI y)), (4, .int (nI (x % y)))]) hx hb dX5_common_26 rfl hl (by decide) rfl (fun ls hl => ?_)
          refine lv_goto (tgt := 13) hx hb dX5_common_27 (by decide) ?_
          exact ih (i + 1) y (x % y) _ _ _ (by omega) (by rw [← hgc, Nat.gcd_comm x y, Nat.gcd_rec y x, Nat.gcd_comm]) (by have := Nat.mod_lt x (show 0 < y by omega); omega) (by omega) (Nat.lt_trans (Nat.mod_lt x (by omega)) hyb) hW (lv_sub hl [1, 0] rfl)
    exact LOOP b 0 z.natAbs b _ _ _ (by omega) rfl (Nat.le_refl _) (by omega) hbb hW (lv_sub hl [1, 0] rfl)
  · skip
    refine lv_iload_n hx hb dX5_common_4 rfl (lv_at hl 0 rfl) ?_
    refine lv_ineg hx hb dX5_common_5 ?_
    refine nv_top (y := ((nI (z.natAbs)))) (iI_neg9 hz1 hz2 (by assumption)) ?_
    refine lv_goto (tgt := 10) hx hb dX5_common_6 (by decide) ?_
    refine lv_istore_n (lv' := [(2, .int (nI (z.natAbs))), (0, .int (iI z)), (1, .int (nI b))]) hx hb dX5_common_10 rfl hl (by decide) rfl (fun ls hl => ?_)
    refine lv_iload_n hx hb dX5_common_11 rfl (lv_at hl 2 rfl) ?_
    refine lv_istore_n (lv' := [(3, .int (nI b)), (2, .int (nI (z.natAbs))), (0, .int (iI z)), (1, .int (nI b))]) hx hb dX5_common_12 rfl hl (by decide) rfl (fun ls hl => ?_)
    have LOOP : ∀ (d i : Nat) (x : Nat) (y : Nat) (H : Heap) (locs : List Loc) (ls : Array Slot), i + d = b → (Nat.gcd x y = Nat.gcd z.natAbs b) → (y ≤ d) → (x < 2147483648) → (y < 2147483648) → St cx s μ H locs → lv_has ls 5 [(2, .int (nI x)), (3, .int (nI y))] → W p l e { frames := 0, cells := 0, slots := 0, locals := 0 } s m [.int (iI z), .int (nI b)].toArray below meth c H locs 0 0 (MQ below (Pi cx μ (nI (Nat.gcd z.natAbs b))) [.int (iI z), .int (nI b)].toArray s 0 0 (xA cx)) (F0 m 13 ls []) := by
      intro d
      induction d with
      | zero =>
        intro i x y  H locs ls hid hgc hyd hxb hyb hW hl
        refine lv_iload_n hx hb dX5_common_13 rfl (lv_at hl 1 rfl) ?_
        refine nv_zeq (tgt := 30) F (by omega) dX5_common_14 (by decide) (fun c_4 => ?_) (fun c_4 => ?_)
        · skip
          refine lv_iload_n hx hb dX5_common_30 rfl (lv_at hl 0 rfl) ?_
          exact rt_ip F hr hlk hW (by rw [← hgc, show y = 0 by omega, Nat.gcd_zero_right]) rfl dX5_common_31
        · skip
          exact absurd c_4 (by omega)
      | succ d ih =>
        intro i x y  H locs ls hid hgc hyd hxb hyb hW hl
        refine lv_iload_n hx hb dX5_common_13 rfl (lv_at hl 1 rfl) ?_
        refine nv_zeq (tgt := 30) F (by omega) dX5_common_14 (by decide) (fun c_5 => ?_) (fun c_5 => ?_)
        · skip
          refine lv_iload_n hx hb dX5_common_30 rfl (lv_at hl 0 rfl) ?_
          exact rt_ip F hr hlk hW (by rw [← hgc, show y = 0 by omega, Nat.gcd_zero_right]) rfl dX5_common_31
        · skip
          refine lv_iload_n hx hb dX5_common_17 rfl (lv_at hl 0 rfl) ?_
          refine lv_iload_n hx hb dX5_common_18 rfl (lv_at hl 1 rfl) ?_
          refine nv_rem F (by omega) (by omega) (by omega) dX5_common_19 ?_
          refine lv_istore (lv' := [(4, .int (nI (x % y))), (2, .int (nI x)), (3, .int (nI y))]) hx hb dX5_common_20 hl (by decide) rfl (fun ls hl => ?_)
          refine lv_iload_n hx hb dX5_common_22 rfl (lv_at hl 2 rfl) ?_
          refine lv_istore_n (lv' := [(2, .int (nI y)), (4, .int (nI (x % y))), (3, .int (nI y))]) hx hb dX5_common_23 rfl hl (by decide) rfl (fun ls hl => ?_)
          refine lv_iload hx hb dX5_common_24 (lv_at hl 1 rfl) ?_
          refine lv_istore_n (lv' := [(3, .int (nI (x % y))), (2, .int (nI y)), (4, .int (nI (x % y)))]) hx hb dX5_common_26 rfl hl (by decide) rfl (fun ls hl => ?_)
          refine lv_goto (tgt := 13) hx hb dX5_common_27 (by decide) ?_
          exact ih (i + 1) y (x % y) _ _ _ (by omega) (by rw [← hgc, Nat.gcd_comm x y, Nat.gcd_rec y x, Nat.gcd_comm]) (by have := Nat.mod_lt x (show 0 < y by omega); omega) (by omega) (Nat.lt_trans (Nat.mod_lt x (by omega)) hyb) hW (lv_sub hl [1, 0] rfl)
    exact LOOP b 0 z.natAbs b _ _ _ (by omega) rfl (Nat.le_refl _) (by omega) hbb hW (lv_sub hl [1, 0] rfl)

/-- stones of the first i houses, if they have come -/
def emP (L : LN) (q i : Nat) : LN := sets L (fun t => if t < i then (if q.testBit t then Ls L t else 0) else Ls L t)
theorem lok_emP {L : LN} {B : Nat} (hk : lok L B) (q i : Nat) : lok (emP L q i) B := by
  obtain ⟨h1, h2, h3, h4, h5, h6, h7⟩ := hk
  refine ⟨h1, h2, h3, fun t ht => ?_, h5, h6, h7⟩
  have := h4 t ht
  refine ⟨this.1, ?_, this.2.2⟩
  show (if t < i then (if q.testBit t then Ls L t else 0) else Ls L t) ≤ 99
  split
  · split
    · exact this.2.1
    · omega
  · exact this.2.1
theorem shp_emP {L : LN} {q i : Nat} : shp (emP L q i) L := ⟨rfl, fun _ _ => rfl⟩
theorem emP_0 {f : Nat → Int32} {o q : Nat} {L : LN} (h : lv f o L) : lv f o (emP L q 0) := lv_ext h rfl rfl (fun t _ => ⟨rfl, by show Ls L t = if t < 0 then (if q.testBit t then Ls L t else 0) else Ls L t; rw [if_neg (by omega)], rfl, rfl, rfl⟩)
theorem emP_n {f : Nat → Int32} {o q : Nat} {L : LN} (h : lv f o (emP L q (Ln L))) : lv f o (emptyL L q) := lv_ext h rfl rfl (fun t ht => ⟨rfl, by show (if t < Ln L then (if q.testBit t then Ls L t else 0) else Ls L t) = (if q.testBit t then Ls L t else 0); rw [if_pos (show t < Ln L from ht)], rfl, rfl, rfl⟩)
theorem lv_emP {f : Nat → Int32} {o q i v : Nat} {L : LN} (h : lv f o (emP L q i)) (hn : Ln L ≤ 6) (hi : i < Ln L) (hv : v = if q.testBit i then Ls L i else 0) : lv (upd f (o + 6 + i) (nI v)) o (emP L q (i + 1)) := by
  refine lv_ext (lv_s (v := v) h hn hi) rfl rfl (fun t ht => ⟨rfl, ?_, rfl, rfl, rfl⟩)
  show va_up (fun t => if t < i then (if q.testBit t then Ls L t else 0) else Ls L t) i v t = if t < i + 1 then (if q.testBit t then Ls L t else 0) else Ls L t
  by_cases e : t = i
  · subst e
    rw [va_up_self, if_pos (show t < t + 1 by omega), hv]
  · rw [va_up_ne _ _ e]
    by_cases e2 : t < i
    · rw [if_pos e2, if_pos (show t < i + 1 by omega)]
    · rw [if_neg e2, if_neg (show ¬ t < i + 1 by omega)]
theorem shT_c (L : LN) (j q : Nat) : ((fct (pop q) * fct (Ln L - 1 - pop q) : Nat) : Int) * ((stW L q : Int) - (stW L (q ||| 2 ^ j) : Int)) = shT L j q := by
  unfold shT
  rw [Int.natCast_mul, Int.mul_comm, ← Int.mul_assoc]

set_option maxHeartbeats 4000000 in
set_option maxRecDepth 100000 in
theorem m_standWith {cx : CX} (hI : xI cx) (l : Launch) {μ : ME} {S : AS} {B : Nat} {Tr : (Nat → Int32) → Prop} (hN : 149 ≤ xN cx) (hX : modX cx μ S Tr) (hA : aok S B) (hMo : mok S) (hB : B < 800000) (q : Nat) (hq : q < 64) : MT cx l yX5_standWith cX5_standWith 3 (some .int) 5 118 [.ref (xa cx 136), .int (nI q)] μ (Ei cx (nI (stW (AL S) q)) (fun μ1 => modX cx μ1 S (fun _ => True) ∧ off 136 13 μ μ1)) := by
  refine mt_of hI (by decide) (Nat.le_of_ble_eq_true rfl) ?_
  intro p e s m below meth c ls F hr hlk hW hl
  have hx := F.1.1
  have hb := F.1.2.1
  have hts := F.1.2.2.2.2
  obtain ⟨rh, nx, f1, fn, frd, ft, fo, fa, frw, fh, fu, fb, fz, fkp, g136, g137, g138, g139, g140, g141, g142, g143, g144, g145, g146, g147, g148, hg, hv, ht, hnx, hrw, hse, hkp, hTr⟩ := id hX
  have hk := hA.2.1
  have hn6 := hk.1
  have hk4 := hk.2.2.2.1
  have hU := lok_U hk
  have hV0 := modX_V0 hX
  have hl : lv_has ls 3 [(0, .ref (xa cx 136)), (1, .int (nI q))] := hl
  refine lv_aload_n hx hb dX5_standWith_0 rfl (lv_at hl 0 rfl) ?_
  refine cl_v (cl_run (rest := []) F hW e_X5_134 (m_layTrial hI l hN hX hA hMo hB) ⟨Nat.le_of_ble_eq_true rfl, Nat.le_of_ble_eq_true rfl⟩ (by omega) g136 rfl rfl rfl hl (Nat.le_of_ble_eq_true rfl) dX5_standWith_1 ⟨Nat.zero_le _, Nat.zero_le _⟩) hW (fun μ1 H locs q_1 hW => ?_)
  obtain ⟨hX_1, ho_1⟩ := q_1
  obtain ⟨rh_1, nx_1, f1_1, fn_1, frd_1, ft_1, fo_1, fa_1, frw_1, fh_1, fu_1, fb_1, fz_1, fkp_1, g136_1, g137_1, g138_1, g139_1, g140_1, g141_1, g142_1, g143_1, g144_1, g145_1, g146_1, g147_1, g148_1, hg_1, hv_1, ht_1, hnx_1, hrw_1, hse_1, hkp_1, hTr_1⟩ := id hX_1
  have hs_1 : shp (AL S) (AL S) := shp_rf
  have hkT_1 := hk
  have hn_1 : Ln (AL S) = Ln (AL S) := hs_1.1
  have hV0_1 := modX_V0 hX_1
  have hV1_1 := modX_V1 hX_1 hs_1
  refine lv_iconst (v := nI 0) hx hb dX5_standWith_4 (by decide) ?_
  refine lv_istore_n (lv' := [(2, .int (nI 0)), (0, .ref (xa cx 136)), (1, .int (nI q))]) hx hb dX5_standWith_5 rfl hl (by decide) rfl (fun ls hl => ?_)
  have LOOP : ∀ (d i : Nat)  (μLOOP : ME) (H : Heap) (locs : List Loc) (ls : Array Slot), i + d = Ln (AL S) → (modX cx μLOOP S (fun fn => lv fn 31 (emP (AL S) q i))) → (off 136 13 μ μLOOP) → St cx s μLOOP H locs → lv_has ls 3 [(0, .ref (xa cx 136)), (1, .int (nI q)), (2, .int (nI i))] → W p l e { frames := 5, cells := 0, slots := 0, locals := 118 } s m [.ref (xa cx 136), .int (nI q)].toArray below meth c H locs 0 0 (MQ below (Ei cx (nI (stW (AL S) q)) (fun μ1 => modX cx μ1 S (fun _ => True) ∧ off 136 13 μ μ1)) [.ref (xa cx 136), .int (nI q)].toArray s 0 0 (xA cx)) (F0 m 6 ls []) := by
    intro d
    induction d with
    | zero =>
      intro i  μLOOP H locs ls hid hXiLOOP hoiLOOP hW hl
      obtain ⟨rh_i, nx_i, f1_i, fn_i, frd_i, ft_i, fo_i, fa_i, frw_i, fh_i, fu_i, fb_i, fz_i, fkp_i, g136_i, g137_i, g138_i, g139_i, g140_i, g141_i, g142_i, g143_i, g144_i, g145_i, g146_i, g147_i, g148_i, hg_i, hv_i, ht_i, hnx_i, hrw_i, hse_i, hkp_i, hTr_i⟩ := id hXiLOOP
      have hs_i : shp (emP (AL S) q i) (AL S) := shp_emP
      have hkT_i := lok_emP hk q i
      have hn_i : Ln (emP (AL S) q i) = Ln (AL S) := hs_i.1
      have hV0_i := modX_V0 hXiLOOP
      have hV1_i := modX_V1 hXiLOOP hs_i
      refine lv_iload_n hx hb dX5_standWith_6 rfl (lv_at hl 2 rfl) ?_
      refine lv_aload_n hx hb dX5_standWith_7 rfl (lv_at hl 0 rfl) ?_
      refine nv_get F hW (by omega) g136_i rfl iX5 0 (by decide) tw_629 rfl dX5_standWith_8 ?_
      refine nv_cge (tgt := 50) F (by omega) (by omega) dX5_standWith_11 (by decide) (fun c_2 => ?_) (fun c_2 => ?_)
      · skip
        have hXe : modX cx μLOOP S (fun fn => lv fn 31 (emptyL (AL S) q)) := modX_tr hXiLOOP (fun f9 h9 => emP_n (by rw [show Ln (AL S) = i by omega]; exact h9))
        obtain ⟨rh_e, nx_e, f1_e, fn_e, frd_e, ft_e, fo_e, fa_e, frw_e, fh_e, fu_e, fb_e, fz_e, fkp_e, g136_e, g137_e, g138_e, g139_e, g140_e, g141_e, g142_e, g143_e, g144_e, g145_e, g146_e, g147_e, g148_e, hg_e, hv_e, ht_e, hnx_e, hrw_e, hse_e, hkp_e, hTr_e⟩ := id hXe
        have hs_e : shp (emptyL (AL S) q) (AL S) := shp_emptyL
        have hkT_e := lok_emptyL hk q
        have hn_e : Ln (emptyL (AL S) q) = Ln (AL S) := hs_e.1
        have hV0_e := modX_V0 hXe
        have hV1_e := modX_V1 hXe hs_e
        refine lv_aload_n hx hb dX5_standWith_50 rfl (lv_at hl 0 rfl) ?_
        refine lv_bipush (v := nI 6) hx hb dX5_standWith_51 (by decide) ?_
        refine cl_ie (cl_run (rest := []) F hW e_X5_137 (m_goOn hI l hN hXe hA hMo hB hs_e hkT_e (by omega) 6 (by omega)) ⟨Nat.le_of_ble_eq_true rfl, Nat.le_of_ble_eq_true rfl⟩ (by omega) g136_e rfl rfl rfl hl (Nat.le_of_ble_eq_true rfl) dX5_standWith_53 ⟨Nat.zero_le _, Nat.zero_le _⟩) hW (fun μ3 H locs q_3 hW => ?_)
        obtain ⟨hX_3, ho_3⟩ := q_3
        obtain ⟨rh_3, nx_3, f1_3, fn_3, frd_3, ft_3, fo_3, fa_3, frw_3, fh_3, fu_3, fb_3, fz_3, fkp_3, g136_3, g137_3, g138_3, g139_3, g140_3, g141_3, g142_3, g143_3, g144_3, g145_3, g146_3, g147_3, g148_3, hg_3, hv_3, ht_3, hnx_3, hrw_3, hse_3, hkp_3, hTr_3⟩ := id hX_3
        have hs_3 : shp (hrs 6 (emptyL (AL S) q)) (AL S) := shp_tr (shp_hrs 6) hs_e
        have hkT_3 := lok_hrs hkT_e 6
        have hn_3 : Ln (hrs 6 (emptyL (AL S) q)) = Ln (AL S) := hs_3.1
        have hV0_3 := modX_V0 hX_3
        have hV1_3 := modX_V1 hX_3 hs_3
        refine lv_pop hx hb dX5_standWith_56 rfl ?_
        refine lv_aload_n hx hb dX5_standWith_57 rfl (lv_at hl 0 rfl) ?_
        refine lv_iconst (v := nI 1) hx hb dX5_standWith_58 (by decide) ?_
        refine cl_ip (cl_run (rest := []) F hW e_X5_140 (m_standingOn hI l hN hV1_3 hkT_3 (by omega) (by omega)) ⟨Nat.le_of_ble_eq_true rfl, Nat.le_of_ble_eq_true rfl⟩ (by omega) g136_3 rfl rfl rfl hl (Nat.le_of_ble_eq_true rfl) dX5_standWith_59 ⟨Nat.zero_le _, Nat.zero_le _⟩) hW (fun H locs hW => ?_)
        refine cl_ip (cl_runS (rest := []) F hW e_X5_114 (m_ones hI l (LU (hrs 6 (emptyL (AL S) q))) (hrs_U6 (lok_emptyL hk _) _)) ⟨Nat.le_of_ble_eq_true rfl, Nat.le_of_ble_eq_true rfl⟩ rfl rfl hl (Nat.le_of_ble_eq_true rfl) dX5_standWith_62 ⟨Nat.zero_le _, Nat.zero_le _⟩) hW (fun H locs hW => ?_)
        exact rt_ie F hr hlk hW rfl ⟨(modX_tr hX_3 (fun _ _ => trivial)), (fun z hz => by rw [ho_3 z (by omega)]; rw [hoiLOOP z (by omega)])⟩ dX5_standWith_65
      · skip
        exact absurd c_2 (by omega)
    | succ d ih =>
      intro i  μLOOP H locs ls hid hXiLOOP hoiLOOP hW hl
      obtain ⟨rh_i, nx_i, f1_i, fn_i, frd_i, ft_i, fo_i, fa_i, frw_i, fh_i, fu_i, fb_i, fz_i, fkp_i, g136_i, g137_i, g138_i, g139_i, g140_i, g141_i, g142_i, g143_i, g144_i, g145_i, g146_i, g147_i, g148_i, hg_i, hv_i, ht_i, hnx_i, hrw_i, hse_i, hkp_i, hTr_i⟩ := id hXiLOOP
      have hs_i : shp (emP (AL S) q i) (AL S) := shp_emP
      have hkT_i := lok_emP hk q i
      have hn_i : Ln (emP (AL S) q i) = Ln (AL S) := hs_i.1
      have hV0_i := modX_V0 hXiLOOP
      have hV1_i := modX_V1 hXiLOOP hs_i
      refine lv_iload_n hx hb dX5_standWith_6 rfl (lv_at hl 2 rfl) ?_
      refine lv_aload_n hx hb dX5_standWith_7 rfl (lv_at hl 0 rfl) ?_
      refine nv_get F hW (by omega) g136_i rfl iX5 0 (by decide) tw_629 rfl dX5_standWith_8 ?_
      refine nv_cge (tgt := 50) F (by omega) (by omega) dX5_standWith_11 (by decide) (fun c_4 => ?_) (fun c_4 => ?_)
      · skip
        exact absurd c_4 (by omega)
      · skip
        refine lv_aload_n hx hb dX5_standWith_14 rfl (lv_at hl 0 rfl) ?_
        refine nv_get F hW (by omega) g136_i rfl iX5 2 (by decide) tw_631 rfl dX5_standWith_15 ?_
        refine lv_bipush (v := nI 37) hx hb dX5_standWith_18 (by decide) ?_
        refine lv_iload_n hx hb dX5_standWith_20 rfl (lv_at hl 2 rfl) ?_
        refine nv_add F dX5_standWith_21 ?_
        refine lv_iload_n hx hb dX5_standWith_22 rfl (lv_at hl 1 rfl) ?_
        refine lv_iload_n hx hb dX5_standWith_23 rfl (lv_at hl 2 rfl) ?_
        refine cl_ip (cl_runS (rest := [.int (nI (37 + i)), .ref (xa cx 138)]) F hW e_X5_102 (m_has hI l q i (by omega) (by omega)) ⟨Nat.le_of_ble_eq_true rfl, Nat.le_of_ble_eq_true rfl⟩ rfl rfl hl (Nat.le_of_ble_eq_true rfl) dX5_standWith_24 ⟨Nat.zero_le _, Nat.zero_le _⟩) hW (fun H locs hW => ?_)
        refine nv_beq (tgt := 42) F dX5_standWith_27 (by decide) (fun c_5 => ?_) (fun c_5 => ?_)
        · skip
          refine lv_iconst (v := nI 0) hx hb dX5_standWith_42 (by decide) ?_
          refine nv_iastN F hW (by omega) g138_i (by omega) (by decide) dX5_standWith_43 (fun H locs hW => ?_)
          obtain ⟨μ6, eμ6⟩ : ∃ zz9 : ME, zz9 = va_up μLOOP 138 (.inl (xT cx 0, 62, .inl (upd fn_i (37 + i) ((nI 0))))) := ⟨_, rfl⟩
          have hW : St cx s μ6 H locs := by rw [eμ6]; exact hW
          have h136_6 := (congrFun eμ6 136).trans ((va_up_ne _ _ (by omega)).trans g136_i)
          have h137_6 := (congrFun eμ6 137).trans ((va_up_ne _ _ (by omega)).trans g137_i)
          have h138_6 : μ6 138 = .inl (xT cx 0, 62, .inl (upd fn_i (37 + i) ((nI 0)))) := by rw [eμ6, va_up_self]
          have h139_6 := (congrFun eμ6 139).trans ((va_up_ne _ _ (by omega)).trans g139_i)
          have h140_6 := (congrFun eμ6 140).trans ((va_up_ne _ _ (by omega)).trans g140_i)
          have h141_6 := (congrFun eμ6 141).trans ((va_up_ne _ _ (by omega)).trans g141_i)
          have h142_6 := (congrFun eμ6 142).trans ((va_up_ne _ _ (by omega)).trans g142_i)
          have h143_6 := (congrFun eμ6 143).trans ((va_up_ne _ _ (by omega)).trans g143_i)
          have h144_6 := (congrFun eμ6 144).trans ((va_up_ne _ _ (by omega)).trans g144_i)
          have h145_6 := (congrFun eμ6 145).trans ((va_up_ne _ _ (by omega)).trans g145_i)
          have h146_6 := (congrFun eμ6 146).trans ((va_up_ne _ _ (by omega)).trans g146_i)
          have h147_6 := (congrFun eμ6 147).trans ((va_up_ne _ _ (by omega)).trans g147_i)
          have h148_6 := (congrFun eμ6 148).trans ((va_up_ne _ _ (by omega)).trans g148_i)
          have hX_t6 : modX cx μ6 S (fun fn => lv fn 31 (emP (AL S) q (i + 1))) := modX_138 hXiLOOP hn6 g138_i eμ6 (fun z hz => upd_ne (by omega)) (lv_emP (o := 31) hTr_i hn6 (by omega) (by rw [‹q.testBit i = _›]; rfl))
          obtain ⟨rh_t6, nx_t6, f1_t6, fn_t6, frd_t6, ft_t6, fo_t6, fa_t6, frw_t6, fh_t6, fu_t6, fb_t6, fz_t6, fkp_t6, g136_t6, g137_t6, g138_t6, g139_t6, g140_t6, g141_t6, g142_t6, g143_t6, g144_t6, g145_t6, g146_t6, g147_t6, g148_t6, hg_t6, hv_t6, ht_t6, hnx_t6, hrw_t6, hse_t6, hkp_t6, hTr_t6⟩ := id hX_t6
          have hs_t6 : shp (emP (AL S) q (i + 1)) (AL S) := shp_emP
          have hkT_t6 := lok_emP hk q (i + 1)
          have hn_t6 : Ln (emP (AL S) q (i + 1)) = Ln (AL S) := hs_t6.1
          have hV0_t6 := modX_V0 hX_t6
          have hV1_t6 := modX_V1 hX_t6 hs_t6
          refine lv_iinc (v := ((nI (i + 1)))) (lv' := [(2, .int (nI (i + 1))), (0, .ref (xa cx 136)), (1, .int (nI q))]) hx hb dX5_standWith_44 hl (k := 2) rfl (nI_add _ _) (by decide) rfl (fun ls hl => ?_)
          refine lv_goto (tgt := 6) hx hb dX5_standWith_47 (by decide) ?_
          exact ih (i + 1) μ6 _ _ _ (by omega) hX_t6 (fun z hz => by rw [eμ6, va_up_ne _ _ (by omega)]; rw [hoiLOOP z (by omega)]) hW (lv_sub hl [1, 2, 0] rfl)
        · skip
          refine lv_aload_n hx hb dX5_standWith_30 rfl (lv_at hl 0 rfl) ?_
          refine nv_get F hW (by omega) g136_i rfl iX5 2 (by decide) tw_631 rfl dX5_standWith_31 ?_
          refine lv_bipush (v := nI 6) hx hb dX5_standWith_34 (by decide) ?_
          refine lv_iload_n hx hb dX5_standWith_36 rfl (lv_at hl 2 rfl) ?_
          refine nv_add F dX5_standWith_37 ?_
          refine nv_ialdN (x := ((nI (Ls (AL S) i)))) F hW (by omega) g138_i (by omega) (by decide) (hv_i.1 i (by omega)).2.1 dX5_standWith_38 ?_
          refine lv_goto (tgt := 43) hx hb dX5_standWith_39 (by decide) ?_
          refine nv_iastN F hW (by omega) g138_i (by omega) (by decide) dX5_standWith_43 (fun H locs hW => ?_)
          obtain ⟨μ7, eμ7⟩ : ∃ zz9 : ME, zz9 = va_up μLOOP 138 (.inl (xT cx 0, 62, .inl (upd fn_i (37 + i) ((nI (Ls (AL S) i)))))) := ⟨_, rfl⟩
          have hW : St cx s μ7 H locs := by rw [eμ7]; exact hW
          have h136_7 := (congrFun eμ7 136).trans ((va_up_ne _ _ (by omega)).trans g136_i)
          have h137_7 := (congrFun eμ7 137).trans ((va_up_ne _ _ (by omega)).trans g137_i)
          have h138_7 : μ7 138 = .inl (xT cx 0, 62, .inl (upd fn_i (37 + i) ((nI (Ls (AL S) i))))) := by rw [eμ7, va_up_self]
          have h139_7 := (congrFun eμ7 139).trans ((va_up_ne _ _ (by omega)).trans g139_i)
          have h140_7 := (congrFun eμ7 140).trans ((va_up_ne _ _ (by omega)).trans g140_i)
          have h141_7 := (congrFun eμ7 141).trans ((va_up_ne _ _ (by omega)).trans g141_i)
          have h142_7 := (congrFun eμ7 142).trans ((va_up_ne _ _ (by omega)).trans g142_i)
          have h143_7 := (congrFun eμ7 143).trans ((va_up_ne _ _ (by omega)).trans g143_i)
          have h144_7 := (congrFun eμ7 144).trans ((va_up_ne _ _ (by omega)).trans g144_i)
          have h145_7 := (congrFun eμ7 145).trans ((va_up_ne _ _ (by omega)).trans g145_i)
          have h146_7 := (congrFun eμ7 146).trans ((va_up_ne _ _ (by omega)).trans g146_i)
          have h147_7 := (congrFun eμ7 147).trans ((va_up_ne _ _ (by omega)).trans g147_i)
          have h148_7 := (congrFun eμ7 148).trans ((va_up_ne _ _ (by omega)).trans g148_i)
          have hX_t7 : modX cx μ7 S (fun fn => lv fn 31 (emP (AL S) q (i + 1))) := modX_138 hXiLOOP hn6 g138_i eμ7 (fun z hz => upd_ne (by omega)) (lv_emP (o := 31) hTr_i hn6 (by omega) (by rw [‹q.testBit i = _›]; rfl))
          obtain ⟨rh_t7, nx_t7, f1_t7, fn_t7, frd_t7, ft_t7, fo_t7, fa_t7, frw_t7, fh_t7, fu_t7, fb_t7, fz_t7, fkp_t7, g136_t7, g137_t7, g138_t7, g139_t7, g140_t7, g141_t7, g142_t7, g143_t7, g144_t7, g145_t7, g146_t7, g147_t7, g148_t7, hg_t7, hv_t7, ht_t7, hnx_t7, hrw_t7, hse_t7, hkp_t7, hTr_t7⟩ := id hX_t7
          have hs_t7 : shp (emP (AL S) q (i + 1)) (AL S) := shp_emP
          have hkT_t7 := lok_emP hk q (i + 1)
          have hn_t7 : Ln (emP (AL S) q (i + 1)) = Ln (AL S) := hs_t7.1
          have hV0_t7 := modX_V0 hX_t7
          have hV1_t7 := modX_V1 hX_t7 hs_t7
          refine lv_iinc (v := ((nI (i + 1)))) (lv' := [(2, .int (nI (i + 1))), (0, .ref (xa cx 136)), (1, .int (nI q))]) hx hb dX5_standWith_44 hl (k := 2) rfl (nI_add _ _) (by decide) rfl (fun ls hl => ?_)
          refine lv_goto (tgt := 6) hx hb dX5_standWith_47 (by decide) ?_
          exact ih (i + 1) μ7 _ _ _ (by omega) hX_t7 (fun z hz => by rw [eμ7, va_up_ne _ _ (by omega)]; rw [hoiLOOP z (by omega)]) hW (lv_sub hl [1, 2, 0] rfl)
  exact LOOP (Ln (AL S)) 0 μ1 _ _ _ (by omega) (modX_tr hX_1 (fun f9 h9 => emP_0 h9)) (fun z hz => by rw [ho_1 z (by omega)]) hW (lv_sub hl [1, 2, 0] rfl)

set_option maxHeartbeats 4000000 in
set_option maxRecDepth 100000 in
theorem x_share {cx : CX} (hI : xI cx) (l : Launch) {μ : ME} {S : AS} {B : Nat} {Tr : (Nat → Int32) → Prop} (hN : 149 ≤ xN cx) (hX : modX cx μ S Tr) (hA : aok S B) (hMo : mok S) (hB : B < 800000) (h : Int32) (up : Bool) : MT cx l yX5_share cX5_share 6 (some .int) 6 140 [.ref (xa cx 136), .int h, .int (b2 up)] μ (Ei cx (r_share S h up) (fun μ1 => modX cx μ1 S (fun _ => True) ∧ off 136 13 μ μ1)) := by
  refine mt_of hI (by decide) (Nat.le_of_ble_eq_true rfl) ?_
  intro p e s m below meth c ls F hr hlk hW hl
  have hx := F.1.1
  have hb := F.1.2.1
  have hts := F.1.2.2.2.2
  obtain ⟨rh, nx, f1, fn, frd, ft, fo, fa, frw, fh, fu, fb, fz, fkp, g136, g137, g138, g139, g140, g141, g142, g143, g144, g145, g146, g147, g148, hg, hv, ht, hnx, hrw, hse, hkp, hTr⟩ := id hX
  have hk := hA.2.1
  have hn6 := hk.1
  have hk4 := hk.2.2.2.1
  have hU := lok_U hk
  have hV0 := modX_V0 hX
  have hl : lv_has ls 6 [(0, .ref (xa cx 136)), (1, .int h), (2, .int (b2 up))] := hl
  refine lv_aload_n hx hb dX5_share_0 rfl (lv_at hl 0 rfl) ?_
  refine lv_iload_n hx hb dX5_share_1 rfl (lv_at hl 1 rfl) ?_
  refine cl_ip (cl_run (rest := []) F hW e_X5_91 (m_isHouse hI l hN hV0 hk (by omega) (by omega) h) ⟨Nat.le_of_ble_eq_true rfl, Nat.le_of_ble_eq_true rfl⟩ (by omega) g136 rfl rfl rfl hl (Nat.le_of_ble_eq_true rfl) dX5_share_2 ⟨Nat.zero_le _, Nat.zero_le _⟩) hW (fun H locs hW => ?_)
  refine nv_bne (tgt := 10) F dX5_share_5 (by decide) (fun c_1 => ?_) (fun c_1 => ?_)
  · skip
    obtain ⟨j, hj, rfl⟩ := inR_of c_1 (by omega)
    have h64 := pow_n6 hn6
    have hf0 : 0 < fct (Ln (AL S)) := by have := fct_le hn6; omega
    refine lv_iconst (v := nI 0) hx hb dX5_share_10 (by decide) ?_
    refine lv_istore_n (lv' := [(3, .int (nI 0)), (0, .ref (xa cx 136)), (1, .int (nI j)), (2, .int (b2 up))]) hx hb dX5_share_11 rfl hl (by decide) rfl (fun ls hl => ?_)
    refine lv_iconst (v := nI 0) hx hb dX5_share_12 (by decide) ?_
    refine lv_istore (lv' := [(4, .int (nI 0)), (3, .int (nI 0)), (0, .ref (xa cx 136)), (1, .int (nI j)), (2, .int (b2 up))]) hx hb dX5_share_13 hl (by decide) rfl (fun ls hl => ?_)
    have LOOP : ∀ (d i : Nat)  (μLOOP : ME) (H : Heap) (locs : List Loc) (ls : Array Slot), i + d = 2 ^ Ln (AL S) → (modX cx μLOOP S (fun _ => True)) → (off 136 13 μ μLOOP) → St cx s μLOOP H locs → lv_has ls 6 [(0, .ref (xa cx 136)), (1, .int (nI j)), (2, .int (b2 up)), (3, .int (iI (shZ (AL S) j i))), (4, .int (nI i))] → W p l e { frames := 6, cells := 0, slots := 0, locals := 140 } s m [.ref (xa cx 136), .int (nI j), .int (b2 up)].toArray below meth c H locs 0 0 (MQ below (Ei cx (r_share S (nI j) up) (fun μ1 => modX cx μ1 S (fun _ => True) ∧ off 136 13 μ μ1)) [.ref (xa cx 136), .int (nI j), .int (b2 up)].toArray s 0 0 (xA cx)) (F0 m 15 ls []) := by
      intro d
      induction d with
      | zero =>
        intro i  μLOOP H locs ls hid hXiLOOP hoiLOOP hW hl
        obtain ⟨rh_i, nx_i, f1_i, fn_i, frd_i, ft_i, fo_i, fa_i, frw_i, fh_i, fu_i, fb_i, fz_i, fkp_i, g136_i, g137_i, g138_i, g139_i, g140_i, g141_i, g142_i, g143_i, g144_i, g145_i, g146_i, g147_i, g148_i, hg_i, hv_i, ht_i, hnx_i, hrw_i, hse_i, hkp_i, hTr_i⟩ := id hXiLOOP
        have hV0_i := modX_V0 hXiLOOP
        refine lv_iload hx hb dX5_share_15 (lv_at hl 4 rfl) ?_
        refine lv_iconst (v := nI 1) hx hb dX5_share_17 (by decide) ?_
        refine lv_aload_n hx hb dX5_share_18 rfl (lv_at hl 0 rfl) ?_
        refine nv_get F hW (by omega) g136_i rfl iX5 0 (by decide) tw_629 rfl dX5_share_19 ?_
        refine nv_shl F (by omega) (by rw [Nat.one_mul]; omega) dX5_share_22 ?_
        refine nv_top (y := ((nI (2 ^ Ln (AL S))))) (by rw [Nat.one_mul]) ?_
        refine nv_cge (tgt := 90) F (by omega) (by omega) dX5_share_23 (by decide) (fun c_2 => ?_) (fun c_2 => ?_)
        · skip
          refine lv_iload_n hx hb dX5_share_90 rfl (lv_at hl 3 rfl) ?_
          refine lv_aload_n hx hb dX5_share_91 rfl (lv_at hl 0 rfl) ?_
          refine nv_get F hW (by omega) g136_i rfl iX5 0 (by decide) tw_629 rfl dX5_share_92 ?_
          refine cl_ip (cl_runS (rest := [.int (iI (shZ (AL S) j i))]) F hW e_X5_181 (m_factorial hI l (Ln (AL S)) (by have := pop_le i; omega)) ⟨Nat.le_of_ble_eq_true rfl, Nat.le_of_ble_eq_true rfl⟩ rfl rfl hl (Nat.le_of_ble_eq_true rfl) dX5_share_95 ⟨Nat.zero_le _, Nat.zero_le _⟩) hW (fun H locs hW => ?_)
          refine cl_ip (cl_runS (rest := []) F hW e_X5_187 (m_common hI l (shZ (AL S) j i) (fct (Ln (AL S))) (by have := shZ_b (AL S) j hn6 i; omega) (by have := shZ_b (AL S) j hn6 i; omega) (by have := fct_le hn6; omega)) ⟨Nat.le_of_ble_eq_true rfl, Nat.le_of_ble_eq_true rfl⟩ rfl rfl hl (Nat.le_of_ble_eq_true rfl) dX5_share_98 ⟨Nat.zero_le _, Nat.zero_le _⟩) hW (fun H locs hW => ?_)
          refine lv_istore (lv' := [(4, .int (nI (Nat.gcd (shZ (AL S) j i).natAbs (fct (Ln (AL S)))))), (0, .ref (xa cx 136)), (1, .int (nI j)), (2, .int (b2 up)), (3, .int (iI (shZ (AL S) j i)))]) hx hb dX5_share_101 hl (by decide) rfl (fun ls hl => ?_)
          refine lv_iload_n hx hb dX5_share_103 rfl (lv_at hl 3 rfl) ?_
          refine nv_beq (tgt := 114) F dX5_share_104 (by decide) (fun c_3 => ?_) (fun c_3 => ?_)
          · skip
            refine lv_aload_n hx hb dX5_share_114 rfl (lv_at hl 1 rfl) ?_
            refine nv_get F hW (by omega) g136_i rfl iX5 0 (by decide) tw_629 rfl dX5_share_115 ?_
            refine cl_ip (cl_runS (rest := []) F hW e_X5_181 (m_factorial hI l (Ln (AL S)) (by have := pop_le i; omega)) ⟨Nat.le_of_ble_eq_true rfl, Nat.le_of_ble_eq_true rfl⟩ rfl rfl hl (Nat.le_of_ble_eq_true rfl) dX5_share_118 ⟨Nat.zero_le _, Nat.zero_le _⟩) hW (fun H locs hW => ?_)
            refine lv_iload hx hb dX5_share_121 (lv_at hl 0 rfl) ?_
            refine lv_idiv hx hb dX5_share_123 (nI_ne0 (Nat.gcd_pos_of_pos_right _ hf0) (Nat.lt_of_le_of_lt (Nat.le_of_dvd hf0 (Nat.gcd_dvd_right _ _)) (by have := fct_le hn6; omega))) ?_
            exact rt_ie F hr hlk hW (by unfold r_share; rw [inR_j hj (by omega), if_pos rfl, nI_clamp (by omega), show 2 ^ Ln (AL S) = i by omega]; unfold pofI; rw [‹up = _›]; rfl) ⟨(modX_tr hXiLOOP (fun _ _ => trivial)), (fun z hz => by rw [hoiLOOP z (by omega)])⟩ dX5_share_124
          · skip
            refine lv_iload_n hx hb dX5_share_107 rfl (lv_at hl 4 rfl) ?_
            refine lv_iload hx hb dX5_share_108 (lv_at hl 0 rfl) ?_
            refine lv_idiv hx hb dX5_share_110 (nI_ne0 (Nat.gcd_pos_of_pos_right _ hf0) (Nat.lt_of_le_of_lt (Nat.le_of_dvd hf0 (Nat.gcd_dvd_right _ _)) (by have := fct_le hn6; omega))) ?_
            refine lv_goto (tgt := 124) hx hb dX5_share_111 (by decide) ?_
            exact rt_ie F hr hlk hW (by unfold r_share; rw [inR_j hj (by omega), if_pos rfl, nI_clamp (by omega), show 2 ^ Ln (AL S) = i by omega]; unfold pofI; rw [‹up = _›]; rfl) ⟨(modX_tr hXiLOOP (fun _ _ => trivial)), (fun z hz => by rw [hoiLOOP z (by omega)])⟩ dX5_share_124
        · skip
          exact absurd c_2 (by omega)
      | succ d ih =>
        intro i  μLOOP H locs ls hid hXiLOOP hoiLOOP hW hl
        obtain ⟨rh_i, nx_i, f1_i, fn_i, frd_i, ft_i, fo_i, fa_i, frw_i, fh_i, fu_i, fb_i, fz_i, fkp_i, g136_i, g137_i, g138_i, g139_i, g140_i, g141_i, g142_i, g143_i, g144_i, g145_i, g146_i, g147_i, g148_i, hg_i, hv_i, ht_i, hnx_i, hrw_i, hse_i, hkp_i, hTr_i⟩ := id hXiLOOP
        have hV0_i := modX_V0 hXiLOOP
        refine lv_iload hx hb dX5_share_15 (lv_at hl 4 rfl) ?_
        refine lv_iconst (v := nI 1) hx hb dX5_share_17 (by decide) ?_
        refine lv_aload_n hx hb dX5_share_18 rfl (lv_at hl 0 rfl) ?_
        refine nv_get F hW (by omega) g136_i rfl iX5 0 (by decide) tw_629 rfl dX5_share_19 ?_
        refine nv_shl F (by omega) (by rw [Nat.one_mul]; omega) dX5_share_22 ?_
        refine nv_top (y := ((nI (2 ^ Ln (AL S))))) (by rw [Nat.one_mul]) ?_
        refine nv_cge (tgt := 90) F (by omega) (by omega) dX5_share_23 (by decide) (fun c_4 => ?_) (fun c_4 => ?_)
        · skip
          exact absurd c_4 (by omega)
        · skip
          refine lv_iload hx hb dX5_share_26 (lv_at hl 4 rfl) ?_
          refine lv_iload_n hx hb dX5_share_28 rfl (lv_at hl 1 rfl) ?_
          refine cl_ip (cl_runS (rest := []) F hW e_X5_102 (m_has hI l i j (by omega) (by omega)) ⟨Nat.le_of_ble_eq_true rfl, Nat.le_of_ble_eq_true rfl⟩ rfl rfl hl (Nat.le_of_ble_eq_true rfl) dX5_share_29 ⟨Nat.zero_le _, Nat.zero_le _⟩) hW (fun H locs hW => ?_)
          refine nv_bne (tgt := 84) F dX5_share_32 (by decide) (fun c_5 => ?_) (fun c_5 => ?_)
          · skip
            refine lv_iinc (v := ((nI (i + 1)))) (lv' := [(4, .int (nI (i + 1))), (0, .ref (xa cx 136)), (1, .int (nI j)), (2, .int (b2 up)), (3, .int (iI (shZ (AL S) j i)))]) hx hb dX5_share_84 hl (k := 4) rfl (nI_add _ _) (by decide) rfl (fun ls hl => ?_)
            refine lv_goto (tgt := 15) hx hb dX5_share_87 (by decide) ?_
            have e1 : shZ (AL S) j (i + 1) = shZ (AL S) j i := by show (if i.testBit j = true then _ else _) = _; rw [if_pos (by assumption)]
            exact ih (i + 1) μLOOP _ _ _ (by omega) (modX_tr hXiLOOP (fun _ _ => trivial)) (fun z hz => by rw [hoiLOOP z (by omega)]) hW (by rw [e1]; exact lv_sub hl [1, 2, 3, 4, 0] rfl)
          · skip
            refine lv_iload hx hb dX5_share_35 (lv_at hl 4 rfl) ?_
            refine cl_ip (cl_runS (rest := []) F hW e_X5_114 (m_ones hI l i (by omega)) ⟨Nat.le_of_ble_eq_true rfl, Nat.le_of_ble_eq_true rfl⟩ rfl rfl hl (Nat.le_of_ble_eq_true rfl) dX5_share_37 ⟨Nat.zero_le _, Nat.zero_le _⟩) hW (fun H locs hW => ?_)
            refine cl_ip (cl_runS (rest := []) F hW e_X5_181 (m_factorial hI l (pop i) (by have := pop_le i; omega)) ⟨Nat.le_of_ble_eq_true rfl, Nat.le_of_ble_eq_true rfl⟩ rfl rfl hl (Nat.le_of_ble_eq_true rfl) dX5_share_40 ⟨Nat.zero_le _, Nat.zero_le _⟩) hW (fun H locs hW => ?_)
            refine lv_aload_n hx hb dX5_share_43 rfl (lv_at hl 0 rfl) ?_
            refine nv_get F hW (by omega) g136_i rfl iX5 0 (by decide) tw_629 rfl dX5_share_44 ?_
            refine lv_iconst (v := nI 1) hx hb dX5_share_47 (by decide) ?_
            refine nv_sub F (by omega) dX5_share_48 ?_
            refine lv_iload hx hb dX5_share_49 (lv_at hl 4 rfl) ?_
            refine cl_ip (cl_runS (rest := [.int (nI ((Ln (AL S)) - 1)), .int (nI (fct (pop i)))]) F hW e_X5_114 (m_ones hI l i (by omega)) ⟨Nat.le_of_ble_eq_true rfl, Nat.le_of_ble_eq_true rfl⟩ rfl rfl hl (Nat.le_of_ble_eq_true rfl) dX5_share_51 ⟨Nat.zero_le _, Nat.zero_le _⟩) hW (fun H locs hW => ?_)
            refine nv_sub F (pop_b (Ln (AL S)) (by omega) i (by omega) j hj (by assumption)) dX5_share_54 ?_
            refine cl_ip (cl_runS (rest := [.int (nI (fct (pop i)))]) F hW e_X5_181 (m_factorial hI l (((Ln (AL S)) - 1) - (pop i)) (by have := pop_le i; omega)) ⟨Nat.le_of_ble_eq_true rfl, Nat.le_of_ble_eq_true rfl⟩ rfl rfl hl (Nat.le_of_ble_eq_true rfl) dX5_share_55 ⟨Nat.zero_le _, Nat.zero_le _⟩) hW (fun H locs hW => ?_)
            refine nv_mul F dX5_share_58 ?_
            refine lv_istore (lv' := [(5, .int (nI ((fct (pop i)) * (fct (((Ln (AL S)) - 1) - (pop i)))))), (0, .ref (xa cx 136)), (1, .int (nI j)), (2, .int (b2 up)), (3, .int (iI (shZ (AL S) j i))), (4, .int (nI i))]) hx hb dX5_share_59 hl (by decide) rfl (fun ls hl => ?_)
            refine lv_iload_n hx hb dX5_share_61 rfl (lv_at hl 4 rfl) ?_
            refine lv_iload hx hb dX5_share_62 (lv_at hl 0 rfl) ?_
            refine lv_aload_n hx hb dX5_share_64 rfl (lv_at hl 1 rfl) ?_
            refine lv_iload hx hb dX5_share_65 (lv_at hl 5 rfl) ?_
            refine cl_ie (cl_run (rest := [.int (nI ((fct (pop i)) * (fct (((Ln (AL S)) - 1) - (pop i))))), .int (iI (shZ (AL S) j i))]) F hW e_X5_184 (m_standWith hI l hN hXiLOOP hA hMo hB i (by omega)) ⟨Nat.le_of_ble_eq_true rfl, Nat.le_of_ble_eq_true rfl⟩ (by omega) g136_i rfl rfl rfl hl (Nat.le_of_ble_eq_true rfl) dX5_share_67 ⟨Nat.zero_le _, Nat.zero_le _⟩) hW (fun μ6 H locs q_6 hW => ?_)
            obtain ⟨hX_6, ho_6⟩ := q_6
            obtain ⟨rh_6, nx_6, f1_6, fn_6, frd_6, ft_6, fo_6, fa_6, frw_6, fh_6, fu_6, fb_6, fz_6, fkp_6, g136_6, g137_6, g138_6, g139_6, g140_6, g141_6, g142_6, g143_6, g144_6, g145_6, g146_6, g147_6, g148_6, hg_6, hv_6, ht_6, hnx_6, hrw_6, hse_6, hkp_6, hTr_6⟩ := id hX_6
            have hV0_6 := modX_V0 hX_6
            refine lv_aload_n hx hb dX5_share_70 rfl (lv_at hl 1 rfl) ?_
            refine lv_iload hx hb dX5_share_71 (lv_at hl 5 rfl) ?_
            refine lv_iconst (v := nI 1) hx hb dX5_share_73 (by decide) ?_
            refine lv_iload_n hx hb dX5_share_74 rfl (lv_at hl 2 rfl) ?_
            refine nv_shl F (by omega) (pow2_lt (by omega)) dX5_share_75 ?_
            refine nv_top (y := ((nI (2 ^ j)))) (by rw [Nat.one_mul]) ?_
            refine nv_or F dX5_share_76 ?_
            refine cl_ie (cl_run (rest := [.int (nI (stW (AL S) i)), .int (nI ((fct (pop i)) * (fct (((Ln (AL S)) - 1) - (pop i))))), .int (iI (shZ (AL S) j i))]) F hW e_X5_184 (m_standWith hI l hN hX_6 hA hMo hB (i ||| (2 ^ j)) (or_lt64 (by omega) (by omega))) ⟨Nat.le_of_ble_eq_true rfl, Nat.le_of_ble_eq_true rfl⟩ (by omega) g136_6 rfl rfl rfl hl (Nat.le_of_ble_eq_true rfl) dX5_share_77 ⟨Nat.zero_le _, Nat.zero_le _⟩) hW (fun μ7 H locs q_7 hW => ?_)
            obtain ⟨hX_7, ho_7⟩ := q_7
            obtain ⟨rh_7, nx_7, f1_7, fn_7, frd_7, ft_7, fo_7, fa_7, frw_7, fh_7, fu_7, fb_7, fz_7, fkp_7, g136_7, g137_7, g138_7, g139_7, g140_7, g141_7, g142_7, g143_7, g144_7, g145_7, g146_7, g147_7, g148_7, hg_7, hv_7, ht_7, hnx_7, hrw_7, hse_7, hkp_7, hTr_7⟩ := id hX_7
            have hV0_7 := modX_V0 hX_7
            refine lv_isub hx hb dX5_share_80 ?_
            refine nv_top (y := ((iI ((stW (AL S) i : Int) - (stW (AL S) (i ||| 2 ^ j) : Int))))) (by rw [iI_nI, iI_nI, iI_sub]) ?_
            refine lv_imul hx hb dX5_share_81 ?_
            refine nv_top (y := ((iI (shT (AL S) j i)))) (by rw [iI_nI, iI_mul]; exact congrArg iI (shT_c _ _ _)) ?_
            refine lv_iadd hx hb dX5_share_82 ?_
            refine nv_top (y := ((iI (shZ (AL S) j i + shT (AL S) j i)))) (by rw [iI_add]) ?_
            refine lv_istore_n (lv' := [(3, .int (iI (shZ (AL S) j i + shT (AL S) j i))), (5, .int (nI ((fct (pop i)) * (fct (((Ln (AL S)) - 1) - (pop i)))))), (0, .ref (xa cx 136)), (1, .int (nI j)), (2, .int (b2 up)), (4, .int (nI i))]) hx hb dX5_share_83 rfl hl (by decide) rfl (fun ls hl => ?_)
            refine lv_iinc (v := ((nI (i + 1)))) (lv' := [(4, .int (nI (i + 1))), (3, .int (iI (shZ (AL S) j i + shT (AL S) j i))), (5, .int (nI ((fct (pop i)) * (fct (((Ln (AL S)) - 1) - (pop i)))))), (0, .ref (xa cx 136)), (1, .int (nI j)), (2, .int (b2 up))]) hx hb dX5_share_84 hl (k := 5) rfl (nI_add _ _) (by decide) rfl (fun ls hl => ?_)
            refine lv_goto (tgt := 15) hx hb dX5_share_87 (by decide) ?_
            have e1 : shZ (AL S) j (i + 1) = shZ (AL S) j i + shT (AL S) j i := by show (if i.testBit j = true then _ else _) = _; rw [if_neg (by rw [‹i.testBit j = false›]; decide)]
            exact ih (i + 1) μ7 _ _ _ (by omega) (modX_tr hX_7 (fun _ _ => trivial)) (fun z hz => by rw [ho_7 z (by omega)]; rw [ho_6 z (by omega)]; rw [hoiLOOP z (by omega)]) hW (by rw [e1]; exact lv_sub hl [3, 4, 5, 1, 0] rfl)
    exact LOOP (2 ^ Ln (AL S)) 0 μ _ _ _ (by omega) (modX_tr hX (fun _ _ => trivial)) off_rf hW (lv_sub hl [2, 3, 4, 1, 0] rfl)
  · skip
    refine lv_iconst (v := (-1)) hx hb dX5_share_8 (by decide) ?_
    exact rt_ie F hr hlk hW (by unfold r_share; rw [‹inR h (Ln (AL S)) = false›]; rfl) ⟨(modX_tr hX (fun _ _ => trivial)), off_rf⟩ dX5_share_9
