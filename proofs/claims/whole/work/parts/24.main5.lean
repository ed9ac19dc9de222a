/-! moves and their orders -/
def mvOk (L : LN) (n r q : Nat) : Bool := decide (fig r (3 * n) (3 * q) < Ln L) && decide (fig r (3 * n) (3 * q + 1) = 0 ∨ fig r (3 * n) (3 * q + 1) = 1) && decide (1 ≤ fig r (3 * n) (3 * q + 2) ∧ fig r (3 * n) (3 * q + 2) ≤ 9)
def mvAll (L : LN) (n r : Nat) : Nat → Bool
  | 0 => true
  | q + 1 => mvAll L n r q && mvOk L n r q
theorem mvAll_f {L : LN} {n r i k : Nat} (h : mvAll L n r i = false) (hi : i ≤ k) : mvAll L n r k = false := by
  induction k with
  | zero => rw [show i = 0 by omega] at h; exact h
  | succ k ih =>
    by_cases e : i = k + 1
    · rw [← e]; exact h
    · show (mvAll L n r k && _) = false
      rw [ih (by omega)]
      rfl
def movB (L : LN) (n : Nat) (x : Int64) : Bool := figs x (3 * n) && mvAll L n x.toInt.toNat n
theorem lN_tn {r : Nat} (hr : r < 9223372036854775808) : (lN r).toInt.toNat = r := by rw [pk_lT hr]; rfl
theorem figs_get {x : Int64} {f : Nat} (h : figs x f = true) : ∃ r : Nat, r < 9223372036854775808 ∧ x = lN r := by
  have h2 := of_decide_eq_true h
  apply pk_lOf
  rw [Int64.lt_iff_toInt_lt]
  have z : (0 : Int64).toInt = 0 := rfl
  omega
def cMv (L : LN) (n r q : Nat) : Bool := if fig r (3 * n) (3 * q + 1) = 0 then canA L (fig r (3 * n) (3 * q)) (fig r (3 * n) (3 * q + 2)) else canS L (fig r (3 * n) (3 * q)) (fig r (3 * n) (3 * q + 2))
def dMv (L : LN) (n r q : Nat) : LN := if fig r (3 * n) (3 * q + 1) = 0 then addS L (fig r (3 * n) (3 * q)) (fig r (3 * n) (3 * q + 2)) else subS L (fig r (3 * n) (3 * q)) (fig r (3 * n) (3 * q + 2))
theorem lok_dMv {L : LN} {B : Nat} (hk : lok L B) (n r q : Nat) : lok (dMv L n r q) B := by
  unfold dMv
  split
  · exact lok_addS hk _ _
  · exact lok_subS hk _ _
/-- after i moves of an order c, an hour behind each -/
def sfL (L : LN) (n r c : Nat) : Nat → LN
  | 0 => L
  | i + 1 => hour (dMv (sfL L n r c i) n r (mv n c i))
def sfB (L : LN) (n r c : Nat) : Nat → Bool
  | 0 => true
  | i + 1 => sfB L n r c i && (cMv (sfL L n r c i) n r (mv n c i) && decide (hF (dMv (sfL L n r c i) n r (mv n c i)) = 0))
theorem sfB_f {L : LN} {n r c i k : Nat} (h : sfB L n r c i = false) (hi : i ≤ k) : sfB L n r c k = false := by
  induction k with
  | zero => rw [show i = 0 by omega] at h; exact h
  | succ k ih =>
    by_cases e : i = k + 1
    · rw [← e]; exact h
    · show (sfB L n r c k && _) = false
      rw [ih (by omega)]
      rfl
theorem lok_sfL {L : LN} {B : Nat} (hk : lok L B) (n r c i : Nat) : lok (sfL L n r c i) (B + 600 * i) := by
  induction i with
  | zero => exact hk
  | succ i ih =>
    have := lok_hour (lok_dMv ih n r (mv n c i))
    rw [show B + 600 * (i + 1) = B + 600 * i + 600 by omega]
    exact this
def okC (L : LN) (n r c : Nat) : Bool := ordB n c && sfB L n r c n
def cntO (L : LN) (n r : Nat) : Nat → Nat
  | 0 => 0
  | c + 1 => cntO L n r c + (if okC L n r c then 1 else 0)
def fstO (L : LN) (n r : Nat) : Nat → Int32
  | 0 => -9
  | c + 1 => if okC L n r c then (if fstO L n r c = -9 then nI (numR n c n) else fstO L n r c) else fstO L n r c
theorem cntO_le (L : LN) (n r c : Nat) : cntO L n r c ≤ c := by
  induction c with
  | zero => exact Nat.le_refl 0
  | succ c ih =>
    show cntO L n r c + _ ≤ c + 1
    split <;> omega
def c14 (x : Int32) : Bool := decide (1 ≤ x.toInt ∧ x.toInt ≤ 4)
theorem c14_of {v : Int32} (h : c14 v = true) : ∃ j : Nat, 1 ≤ j ∧ j ≤ 4 ∧ v = nI j := by
  have h2 := of_decide_eq_true h
  obtain ⟨j, hj, rfl⟩ := vp_in_of (x := v) (n := 10) (vp_in_iff.mpr (by omega)) (by decide)
  rw [nI_toInt (by omega)] at h2
  exact ⟨j, by omega, by omega, rfl⟩
theorem c14_nI {v : Nat} (h1 : 1 ≤ v) (h4 : v ≤ 4) : c14 (nI v) = true := by
  apply decide_eq_true
  rw [nI_toInt (by omega)]
  omega
theorem c14_lo {v : Int32} (c : v < nI 1) : c14 v = false := by
  rw [Int32.lt_iff_toInt_lt, nI_toInt (by decide)] at c
  apply decide_eq_false
  omega
theorem c14_hi {v : Int32} (c : nI 4 < v) : c14 v = false := by
  rw [Int32.lt_iff_toInt_lt, nI_toInt (by decide)] at c
  apply decide_eq_false
  omega
theorem c14_in {v : Int32} (c : ¬ v < nI 1) (d : ¬ nI 4 < v) : c14 v = true := by
  rw [Int32.lt_iff_toInt_lt, nI_toInt (by decide)] at c d
  apply decide_eq_true
  omega
def r_orders (S : AS) (n : Int32) (x : Int64) (w : Int32) : Int32 := if c14 n && halI w && movB (AL S) n.toNatClampNeg x then (if w = nI 0 then nI (cntO (AL S) n.toNatClampNeg x.toInt.toNat (4 ^ n.toNatClampNeg)) else fstO (AL S) n.toNatClampNeg x.toInt.toNat (4 ^ n.toNatClampNeg)) else -2
theorem halI_n {v : Nat} (hv : v < 2147483648) : halI (nI v) = decide (v = 0 ∨ v = 1) := by
  apply decide_eq_decide.mpr
  rw [nI_eq hv (by decide), nI_eq hv (by decide)]

set_option maxHeartbeats 4000000 in
set_option maxRecDepth 100000 in
theorem c_areMoves {cx : CX} (hI : xI cx) (l : Launch) {μ : ME} {S : AS} {B : Nat} (hN : 136 ≤ xN cx) (hM : mainR cx μ S) (hA : aok S B) (hB : B < 800000) (n : Nat) (hn1 : 1 ≤ n) (hn4 : n ≤ 4) (x : Int64) : MT cx l yX4_areMoves cX4_areMoves 7 (some .boolean) 1 26 [.ref (xa cx 0), .int (nI n), .long (x)] μ (Pi cx μ (b2 (movB (AL S) n x))) := by
  refine mt_of hI (by decide) (Nat.le_of_ble_eq_true rfl) ?_
  intro p e s m below meth c ls F hr hlk hW hl
  have hx := F.1.1
  have hb := F.1.2.1
  have hts := F.1.2.2.2.2
  obtain ⟨m0, hT, hL, ⟨LT, hLT⟩, hPa, hSe, hSl⟩ := id hM
  have hk := hA.2.1
  have hn6 := hk.1
  have h3b : 3 + 7 ≤ xN cx := by omega
  have h10b : 10 + 7 ≤ xN cx := by omega
  obtain ⟨_, _, _, _, _, _, o3, -⟩ := id hL
  obtain ⟨_, _, _, _, _, _, o10, -⟩ := id hLT
  obtain ⟨_, o1, -⟩ := id hT
  obtain ⟨_, _, o17, -⟩ := id hPa
  obtain ⟨_, _, _, o117, -⟩ := id hSe
  obtain ⟨⟨gs, o121, hgs⟩, hsl2, hsl3⟩ := id hSl
  have hl : lv_has ls 7 [(0, .ref (xa cx 0)), (1, .int (nI n)), (2, .long (x))] := hl
  refine lv_iconst (v := nI 3) hx hb dX4_areMoves_0 (by decide) ?_
  refine lv_iload_n hx hb dX4_areMoves_1 rfl (lv_at hl 1 rfl) ?_
  refine nv_mul F dX4_areMoves_2 ?_
  refine lv_istore (lv' := [(4, .int (nI (3 * n))), (0, .ref (xa cx 0)), (1, .int (nI n)), (2, .long (x))]) hx hb dX4_areMoves_3 hl (by decide) rfl (fun ls hl => ?_)
  refine lv_lload_n hx hb dX4_areMoves_5 rfl (lv_at hl 3 rfl) ?_
  refine lv_iload hx hb dX4_areMoves_6 (lv_at hl 0 rfl) ?_
  refine cl_ip (cl_runS (rest := []) F hW e_X4_166 (c_hasFigures hI l ((x)) (3 * n) (by omega)) ⟨Nat.le_of_ble_eq_true rfl, Nat.le_of_ble_eq_true rfl⟩ rfl rfl hl (Nat.le_of_ble_eq_true rfl) dX4_areMoves_8 ⟨Nat.zero_le _, Nat.zero_le _⟩) hW (fun H locs hW => ?_)
  refine nv_bne (tgt := 16) F dX4_areMoves_11 (by decide) (fun c_1 => ?_) (fun c_1 => ?_)
  · skip
    obtain ⟨r, hr9, rfl⟩ := figs_get c_1
    have hfg : figs (lN r) (3 * n) = true := c_1
    refine lv_iconst (v := nI 0) hx hb dX4_areMoves_16 (by decide) ?_
    refine lv_istore (lv' := [(5, .int (nI 0)), (4, .int (nI (3 * n))), (0, .ref (xa cx 0)), (1, .int (nI n)), (2, .long (lN r))]) hx hb dX4_areMoves_17 hl (by decide) rfl (fun ls hl => ?_)
    have LOOP : ∀ (d i : Nat)  (H : Heap) (locs : List Loc) (ls : Array Slot), i + d = n → (mvAll (AL S) n r i = true) → St cx s μ H locs → lv_has ls 7 [(0, .ref (xa cx 0)), (1, .int (nI n)), (2, .long (lN r)), (4, .int (nI (3 * n))), (5, .int (nI (3 * i)))] → W p l e { frames := 1, cells := 0, slots := 0, locals := 26 } s m [.ref (xa cx 0), .int (nI n), .long (lN r)].toArray below meth c H locs 0 0 (MQ below (Pi cx μ (b2 (movB (AL S) n (lN r)))) [.ref (xa cx 0), .int (nI n), .long (lN r)].toArray s 0 0 (xA cx)) (F0 m 19 ls []) := by
      intro d
      induction d with
      | zero =>
        intro i   H locs ls hid hall hW hl
        refine lv_iload hx hb dX4_areMoves_19 (lv_at hl 4 rfl) ?_
        refine lv_iload hx hb dX4_areMoves_21 (lv_at hl 3 rfl) ?_
        refine nv_cge (tgt := 96) F (by omega) (by omega) dX4_areMoves_23 (by decide) (fun c_2 => ?_) (fun c_2 => ?_)
        · skip
          refine lv_iconst (v := nI 1) hx hb dX4_areMoves_96 (by decide) ?_
          exact rt_zp F hr hlk hW (by have e : i = n := (by omega); rw [e] at hall; unfold movB; rw [hfg, lN_tn hr9, hall]; rfl) rfl dX4_areMoves_97
        · skip
          exact absurd c_2 (by omega)
      | succ d ih =>
        intro i   H locs ls hid hall hW hl
        refine lv_iload hx hb dX4_areMoves_19 (lv_at hl 4 rfl) ?_
        refine lv_iload hx hb dX4_areMoves_21 (lv_at hl 3 rfl) ?_
        refine nv_cge (tgt := 96) F (by omega) (by omega) dX4_areMoves_23 (by decide) (fun c_3 => ?_) (fun c_3 => ?_)
        · skip
          exact absurd c_3 (by omega)
        · skip
          refine lv_aload_n hx hb dX4_areMoves_26 rfl (lv_at hl 0 rfl) ?_
          refine nv_get F hW (by omega) m0 rfl iX4 1 (by decide) tw_149 rfl dX4_areMoves_27 ?_
          refine lv_lload_n hx hb dX4_areMoves_30 rfl (lv_at hl 2 rfl) ?_
          refine lv_iload hx hb dX4_areMoves_31 (lv_at hl 3 rfl) ?_
          refine lv_iload hx hb dX4_areMoves_33 (lv_at hl 4 rfl) ?_
          refine cl_ip (cl_runS (rest := [.ref (xa cx 3)]) F hW e_X4_170 (c_figure hI l r (3 * n) (3 * i) hr9 (by omega) (by omega)) ⟨Nat.le_of_ble_eq_true rfl, Nat.le_of_ble_eq_true rfl⟩ rfl rfl hl (Nat.le_of_ble_eq_true rfl) dX4_areMoves_35 ⟨Nat.zero_le _, Nat.zero_le _⟩) hW (fun H locs hW => ?_)
          refine cl_ip (cl_run (rest := []) F hW e_X4_71 (c_hasN hI l h3b hL hk (fig r (3 * n) (3 * i)) (by have := fig_lt r (3 * n) (3 * i); omega)) ⟨Nat.le_of_ble_eq_true rfl, Nat.le_of_ble_eq_true rfl⟩ (by omega) o3 rfl rfl rfl hl (Nat.le_of_ble_eq_true rfl) dX4_areMoves_38 ⟨Nat.zero_le _, Nat.zero_le _⟩) hW (fun H locs hW => ?_)
          refine nv_beq (tgt := 80) F dX4_areMoves_41 (by decide) (fun c_4 => ?_) (fun c_4 => ?_)
          · skip
            refine lv_iconst (v := nI 0) hx hb dX4_areMoves_80 (by decide) ?_
            refine lv_istore (lv' := [(6, .int (nI 0)), (0, .ref (xa cx 0)), (1, .int (nI n)), (2, .long (lN r)), (4, .int (nI (3 * n))), (5, .int (nI (3 * i)))]) hx hb dX4_areMoves_81 hl (by decide) rfl (fun ls hl => ?_)
            refine lv_iload hx hb dX4_areMoves_83 (lv_at hl 0 rfl) ?_
            refine nv_zne (tgt := 90) F (by decide) dX4_areMoves_85 (by decide) (fun c_5 => ?_) (fun c_5 => ?_)
            · skip
              exact absurd c_5 (by decide)
            · skip
              refine lv_iconst (v := nI 0) hx hb dX4_areMoves_88 (by decide) ?_
              exact rt_zp F hr hlk hW (by unfold movB; rw [hfg, lN_tn hr9, mvAll_f (i := i + 1) (by show (mvAll (AL S) n r i && mvOk (AL S) n r i) = false; unfold mvOk; simp only [*, Bool.and_false, Bool.false_and]) (by omega)]; rfl) rfl dX4_areMoves_89
          · skip
            refine lv_lload_n hx hb dX4_areMoves_44 rfl (lv_at hl 2 rfl) ?_
            refine lv_iload hx hb dX4_areMoves_45 (lv_at hl 3 rfl) ?_
            refine lv_iload hx hb dX4_areMoves_47 (lv_at hl 4 rfl) ?_
            refine lv_iconst (v := nI 1) hx hb dX4_areMoves_49 (by decide) ?_
            refine nv_add F dX4_areMoves_50 ?_
            refine cl_ip (cl_runS (rest := []) F hW e_X4_170 (c_figure hI l r (3 * n) ((3 * i) + 1) hr9 (by omega) (by omega)) ⟨Nat.le_of_ble_eq_true rfl, Nat.le_of_ble_eq_true rfl⟩ rfl rfl hl (Nat.le_of_ble_eq_true rfl) dX4_areMoves_51 ⟨Nat.zero_le _, Nat.zero_le _⟩) hW (fun H locs hW => ?_)
            refine cl_ip (cl_runS (rest := []) F hW e_X4_135 (c_isHalf hI l ((nI (fig r (3 * n) ((3 * i) + 1))))) ⟨Nat.le_of_ble_eq_true rfl, Nat.le_of_ble_eq_true rfl⟩ rfl rfl hl (Nat.le_of_ble_eq_true rfl) dX4_areMoves_54 ⟨Nat.zero_le _, Nat.zero_le _⟩) hW (fun H locs hW => ?_)
            refine nv_top (y := ((b2 (decide (fig r (3 * n) (3 * i + 1) = 0 ∨ fig r (3 * n) (3 * i + 1) = 1))))) (congrArg b2 (halI_n (by have := fig_lt r (3 * n) (3 * i + 1); omega))) ?_
            refine nv_beq (tgt := 80) F dX4_areMoves_57 (by decide) (fun c_6 => ?_) (fun c_6 => ?_)
            · skip
              refine lv_iconst (v := nI 0) hx hb dX4_areMoves_80 (by decide) ?_
              refine lv_istore (lv' := [(6, .int (nI 0)), (0, .ref (xa cx 0)), (1, .int (nI n)), (2, .long (lN r)), (4, .int (nI (3 * n))), (5, .int (nI (3 * i)))]) hx hb dX4_areMoves_81 hl (by decide) rfl (fun ls hl => ?_)
              refine lv_iload hx hb dX4_areMoves_83 (lv_at hl 0 rfl) ?_
              refine nv_zne (tgt := 90) F (by decide) dX4_areMoves_85 (by decide) (fun c_7 => ?_) (fun c_7 => ?_)
              · skip
                exact absurd c_7 (by decide)
              · skip
                refine lv_iconst (v := nI 0) hx hb dX4_areMoves_88 (by decide) ?_
                exact rt_zp F hr hlk hW (by unfold movB; rw [hfg, lN_tn hr9, mvAll_f (i := i + 1) (by show (mvAll (AL S) n r i && mvOk (AL S) n r i) = false; unfold mvOk; simp only [*, Bool.and_false, Bool.false_and]) (by omega)]; rfl) rfl dX4_areMoves_89
            · skip
              refine lv_lload_n hx hb dX4_areMoves_60 rfl (lv_at hl 2 rfl) ?_
              refine lv_iload hx hb dX4_areMoves_61 (lv_at hl 3 rfl) ?_
              refine lv_iload hx hb dX4_areMoves_63 (lv_at hl 4 rfl) ?_
              refine lv_iconst (v := nI 2) hx hb dX4_areMoves_65 (by decide) ?_
              refine nv_add F dX4_areMoves_66 ?_
              refine cl_ip (cl_runS (rest := []) F hW e_X4_170 (c_figure hI l r (3 * n) ((3 * i) + 2) hr9 (by omega) (by omega)) ⟨Nat.le_of_ble_eq_true rfl, Nat.le_of_ble_eq_true rfl⟩ rfl rfl hl (Nat.le_of_ble_eq_true rfl) dX4_areMoves_67 ⟨Nat.zero_le _, Nat.zero_le _⟩) hW (fun H locs hW => ?_)
              refine cl_ip (cl_runS (rest := []) F hW e_X4_106 (c_isCarriedN hI l (fig r (3 * n) ((3 * i) + 2)) (by have := fig_lt r (3 * n) (3 * i + 2); omega)) ⟨Nat.le_of_ble_eq_true rfl, Nat.le_of_ble_eq_true rfl⟩ rfl rfl hl (Nat.le_of_ble_eq_true rfl) dX4_areMoves_70 ⟨Nat.zero_le _, Nat.zero_le _⟩) hW (fun H locs hW => ?_)
              refine nv_beq (tgt := 80) F dX4_areMoves_73 (by decide) (fun c_8 => ?_) (fun c_8 => ?_)
              · skip
                refine lv_iconst (v := nI 0) hx hb dX4_areMoves_80 (by decide) ?_
                refine lv_istore (lv' := [(6, .int (nI 0)), (0, .ref (xa cx 0)), (1, .int (nI n)), (2, .long (lN r)), (4, .int (nI (3 * n))), (5, .int (nI (3 * i)))]) hx hb dX4_areMoves_81 hl (by decide) rfl (fun ls hl => ?_)
                refine lv_iload hx hb dX4_areMoves_83 (lv_at hl 0 rfl) ?_
                refine nv_zne (tgt := 90) F (by decide) dX4_areMoves_85 (by decide) (fun c_9 => ?_) (fun c_9 => ?_)
                · skip
                  exact absurd c_9 (by decide)
                · skip
                  refine lv_iconst (v := nI 0) hx hb dX4_areMoves_88 (by decide) ?_
                  exact rt_zp F hr hlk hW (by unfold movB; rw [hfg, lN_tn hr9, mvAll_f (i := i + 1) (by show (mvAll (AL S) n r i && mvOk (AL S) n r i) = false; unfold mvOk; simp only [*, Bool.and_false, Bool.false_and]) (by omega)]; rfl) rfl dX4_areMoves_89
              · skip
                refine lv_iconst (v := nI 1) hx hb dX4_areMoves_76 (by decide) ?_
                refine lv_goto (tgt := 81) hx hb dX4_areMoves_77 (by decide) ?_
                refine lv_istore (lv' := [(6, .int (nI 1)), (0, .ref (xa cx 0)), (1, .int (nI n)), (2, .long (lN r)), (4, .int (nI (3 * n))), (5, .int (nI (3 * i)))]) hx hb dX4_areMoves_81 hl (by decide) rfl (fun ls hl => ?_)
                refine lv_iload hx hb dX4_areMoves_83 (lv_at hl 0 rfl) ?_
                refine nv_zne (tgt := 90) F (by decide) dX4_areMoves_85 (by decide) (fun c_10 => ?_) (fun c_10 => ?_)
                · skip
                  refine lv_iinc (v := ((nI (3 * i + 3)))) (lv' := [(5, .int (nI (3 * i + 3))), (6, .int (nI 1)), (0, .ref (xa cx 0)), (1, .int (nI n)), (2, .long (lN r)), (4, .int (nI (3 * n)))]) hx hb dX4_areMoves_90 hl (k := 5) rfl (nI_add _ _) (by decide) rfl (fun ls hl => ?_)
                  refine lv_goto (tgt := 19) hx hb dX4_areMoves_93 (by decide) ?_
                  have e1 : mvAll (AL S) n r (i + 1) = true := by show (mvAll (AL S) n r i && mvOk (AL S) n r i) = true; unfold mvOk; simp only [hall, *, Bool.and_self]
                  exact ih (i + 1) _ _ _ (by omega) e1 hW (lv_sub hl [2, 3, 4, 5, 0] rfl)
                · skip
                  exact absurd c_10 (by decide)
    exact LOOP n 0 _ _ _ (by omega) rfl hW (lv_sub hl [2, 3, 4, 1, 0] rfl)
  · skip
    refine lv_iconst (v := nI 0) hx hb dX4_areMoves_14 (by decide) ?_
    exact rt_zp F hr hlk hW (by unfold movB; rw [‹figs x (3 * n) = false›]; rfl) rfl dX4_areMoves_15

set_option maxHeartbeats 4000000 in
set_option maxRecDepth 100000 in
theorem c_canMove {cx : CX} (hI : xI cx) (l : Launch) {μ : ME} {S : AS} {B : Nat} (hN : 136 ≤ xN cx) (hM : mainR cx μ S) (hA : aok S B) (hB : B < 800000) {LT : LN} {BT : Nat} (hLT : laneR cx μ 10 LT) (hkT : lok LT BT) (hBT : BT < 820000) (n r q : Nat) (hn1 : 1 ≤ n) (hn4 : n ≤ 4) (hq : q < n) (hr9 : r < 9223372036854775808) : MT cx l yX4_canMove cX4_canMove 9 (some .boolean) 3 65 [.ref (xa cx 0), .int (nI n), .long (lN r), .int (nI q)] μ (Ei cx (b2 (cMv LT n r q)) (fun μ1 => laneR cx μ1 10 (dMv LT n r q) ∧ off 10 7 μ μ1)) := by
  refine mt_of hI (by decide) (Nat.le_of_ble_eq_true rfl) ?_
  intro p e s m below meth c ls F hr hlk hW hl
  have hx := F.1.1
  have hb := F.1.2.1
  have hts := F.1.2.2.2.2
  obtain ⟨m0, hT, hL, -, hPa, hSe, hSl⟩ := id hM
  have hk := hA.2.1
  have hn6 := hk.1
  have h3b : 3 + 7 ≤ xN cx := by omega
  have h10b : 10 + 7 ≤ xN cx := by omega
  obtain ⟨_, _, _, _, _, _, o3, -⟩ := id hL
  obtain ⟨_, _, _, _, _, _, o10, -⟩ := id hLT
  obtain ⟨_, o1, -⟩ := id hT
  obtain ⟨_, _, o17, -⟩ := id hPa
  obtain ⟨_, _, _, o117, -⟩ := id hSe
  obtain ⟨⟨gs, o121, hgs⟩, hsl2, hsl3⟩ := id hSl
  have hl : lv_has ls 9 [(0, .ref (xa cx 0)), (1, .int (nI n)), (2, .long (lN r)), (4, .int (nI q))] := hl
  refine lv_iconst (v := nI 3) hx hb dX4_canMove_0 (by decide) ?_
  refine lv_iload_n hx hb dX4_canMove_1 rfl (lv_at hl 1 rfl) ?_
  refine nv_mul F dX4_canMove_2 ?_
  refine lv_istore (lv' := [(5, .int (nI (3 * n))), (0, .ref (xa cx 0)), (1, .int (nI n)), (2, .long (lN r)), (4, .int (nI q))]) hx hb dX4_canMove_3 hl (by decide) rfl (fun ls hl => ?_)
  refine lv_iconst (v := nI 3) hx hb dX4_canMove_5 (by decide) ?_
  refine lv_iload hx hb dX4_canMove_6 (lv_at hl 4 rfl) ?_
  refine nv_mul F dX4_canMove_8 ?_
  refine lv_istore (lv' := [(6, .int (nI (3 * q))), (5, .int (nI (3 * n))), (0, .ref (xa cx 0)), (1, .int (nI n)), (2, .long (lN r)), (4, .int (nI q))]) hx hb dX4_canMove_9 hl (by decide) rfl (fun ls hl => ?_)
  refine lv_lload_n hx hb dX4_canMove_11 rfl (lv_at hl 4 rfl) ?_
  refine lv_iload hx hb dX4_canMove_12 (lv_at hl 1 rfl) ?_
  refine lv_iload hx hb dX4_canMove_14 (lv_at hl 0 rfl) ?_
  refine cl_ip (cl_runS (rest := []) F hW e_X4_170 (c_figure hI l r (3 * n) (3 * q) hr9 (by omega) (by omega)) ⟨Nat.le_of_ble_eq_true rfl, Nat.le_of_ble_eq_true rfl⟩ rfl rfl hl (Nat.le_of_ble_eq_true rfl) dX4_canMove_16 ⟨Nat.zero_le _, Nat.zero_le _⟩) hW (fun H locs hW => ?_)
  refine lv_istore (lv' := [(7, .int (nI (fig r (3 * n) (3 * q)))), (6, .int (nI (3 * q))), (5, .int (nI (3 * n))), (0, .ref (xa cx 0)), (1, .int (nI n)), (2, .long (lN r)), (4, .int (nI q))]) hx hb dX4_canMove_19 hl (by decide) rfl (fun ls hl => ?_)
  refine lv_lload_n hx hb dX4_canMove_21 rfl (lv_at hl 5 rfl) ?_
  refine lv_iload hx hb dX4_canMove_22 (lv_at hl 2 rfl) ?_
  refine lv_iload hx hb dX4_canMove_24 (lv_at hl 1 rfl) ?_
  refine lv_iconst (v := nI 2) hx hb dX4_canMove_26 (by decide) ?_
  refine nv_add F dX4_canMove_27 ?_
  refine cl_ip (cl_runS (rest := []) F hW e_X4_170 (c_figure hI l r (3 * n) ((3 * q) + 2) hr9 (by omega) (by omega)) ⟨Nat.le_of_ble_eq_true rfl, Nat.le_of_ble_eq_true rfl⟩ rfl rfl hl (Nat.le_of_ble_eq_true rfl) dX4_canMove_28 ⟨Nat.zero_le _, Nat.zero_le _⟩) hW (fun H locs hW => ?_)
  refine lv_istore (lv' := [(8, .int (nI (fig r (3 * n) ((3 * q) + 2)))), (7, .int (nI (fig r (3 * n) (3 * q)))), (6, .int (nI (3 * q))), (5, .int (nI (3 * n))), (0, .ref (xa cx 0)), (1, .int (nI n)), (2, .long (lN r)), (4, .int (nI q))]) hx hb dX4_canMove_31 hl (by decide) rfl (fun ls hl => ?_)
  refine lv_lload_n hx hb dX4_canMove_33 rfl (lv_at hl 6 rfl) ?_
  refine lv_iload hx hb dX4_canMove_34 (lv_at hl 3 rfl) ?_
  refine lv_iload hx hb dX4_canMove_36 (lv_at hl 2 rfl) ?_
  refine lv_iconst (v := nI 1) hx hb dX4_canMove_38 (by decide) ?_
  refine nv_add F dX4_canMove_39 ?_
  refine cl_ip (cl_runS (rest := []) F hW e_X4_170 (c_figure hI l r (3 * n) ((3 * q) + 1) hr9 (by omega) (by omega)) ⟨Nat.le_of_ble_eq_true rfl, Nat.le_of_ble_eq_true rfl⟩ rfl rfl hl (Nat.le_of_ble_eq_true rfl) dX4_canMove_40 ⟨Nat.zero_le _, Nat.zero_le _⟩) hW (fun H locs hW => ?_)
  refine nv_zne (tgt := 60) F (by have := fig_lt r (3 * n) (3 * q + 1); omega) dX4_canMove_43 (by decide) (fun c_1 => ?_) (fun c_1 => ?_)
  · skip
    refine lv_aload_n hx hb dX4_canMove_60 rfl (lv_at hl 4 rfl) ?_
    refine nv_get F hW (by omega) m0 rfl iX4 2 (by decide) tw_150 rfl dX4_canMove_61 ?_
    refine lv_iload hx hb dX4_canMove_64 (lv_at hl 1 rfl) ?_
    refine lv_iload hx hb dX4_canMove_66 (lv_at hl 0 rfl) ?_
    refine cl_ie (cl_run (rest := []) F hW e_X4_119 (c_removeStones hI l h10b hLT hkT (fig r (3 * n) (3 * q)) (fig r (3 * n) ((3 * q) + 2)) (by have := fig_lt r (3 * n) (3 * q); omega) (by have := fig_lt r (3 * n) (3 * q + 2); omega)) ⟨Nat.le_of_ble_eq_true rfl, Nat.le_of_ble_eq_true rfl⟩ (by omega) o10 rfl rfl rfl hl (Nat.le_of_ble_eq_true rfl) dX4_canMove_68 ⟨Nat.zero_le _, Nat.zero_le _⟩) hW (fun μ2 H locs q_2 hW => ?_)
    exact rt_ze F hr hlk hW (by unfold cMv; first | rw [if_pos (by assumption)] | rw [if_neg (by assumption)]) (by unfold dMv; first | (rw [if_pos (by assumption)]; exact q_2) | (rw [if_neg (by assumption)]; exact q_2)) dX4_canMove_71
  · skip
    refine lv_aload_n hx hb dX4_canMove_46 rfl (lv_at hl 4 rfl) ?_
    refine nv_get F hW (by omega) m0 rfl iX4 2 (by decide) tw_150 rfl dX4_canMove_47 ?_
    refine lv_iload hx hb dX4_canMove_50 (lv_at hl 1 rfl) ?_
    refine lv_iload hx hb dX4_canMove_52 (lv_at hl 0 rfl) ?_
    refine cl_ie (cl_run (rest := []) F hW e_X4_113 (c_addStones hI l h10b hLT hkT (fig r (3 * n) (3 * q)) (fig r (3 * n) ((3 * q) + 2)) (by have := fig_lt r (3 * n) (3 * q); omega) (by have := fig_lt r (3 * n) (3 * q + 2); omega)) ⟨Nat.le_of_ble_eq_true rfl, Nat.le_of_ble_eq_true rfl⟩ (by omega) o10 rfl rfl rfl hl (Nat.le_of_ble_eq_true rfl) dX4_canMove_54 ⟨Nat.zero_le _, Nat.zero_le _⟩) hW (fun μ3 H locs q_3 hW => ?_)
    refine lv_goto (tgt := 71) hx hb dX4_canMove_57 (by decide) ?_
    exact rt_ze F hr hlk hW (by unfold cMv; first | rw [if_pos (by assumption)] | rw [if_neg (by assumption)]) (by unfold dMv; first | (rw [if_pos (by assumption)]; exact q_3) | (rw [if_neg (by assumption)]; exact q_3)) dX4_canMove_71

set_option maxHeartbeats 4000000 in
set_option maxRecDepth 100000 in
theorem c_isSafeOrder {cx : CX} (hI : xI cx) (l : Launch) {μ : ME} {S : AS} {B : Nat} (hN : 136 ≤ xN cx) (hM : mainR cx μ S) (hA : aok S B) (hB : B < 800000) (n r c0 : Nat) (hn1 : 1 ≤ n) (hn4 : n ≤ 4) (hr9 : r < 9223372036854775808) (hc : c0 < 256) (hmv : ∀ i, i < n → mv n c0 i < n) : MT cx l yX4_isSafeOrder cX4_isSafeOrder 6 (some .boolean) 4 115 [.ref (xa cx 0), .int (nI n), .long (lN r), .int (nI c0)] μ (Ei cx (b2 (sfB (AL S) n r c0 n)) (fun μ1 => (∃ L1, laneR cx μ1 10 L1) ∧ off 10 7 μ μ1)) := by
  refine mt_of hI (by decide) (Nat.le_of_ble_eq_true rfl) ?_
  intro p e s m below meth c ls F hr hlk hW hl
  have hx := F.1.1
  have hb := F.1.2.1
  have hts := F.1.2.2.2.2
  obtain ⟨m0, hT, hL, ⟨LT, hLT⟩, hPa, hSe, hSl⟩ := id hM
  have hk := hA.2.1
  have hn6 := hk.1
  have h3b : 3 + 7 ≤ xN cx := by omega
  have h10b : 10 + 7 ≤ xN cx := by omega
  obtain ⟨_, _, _, _, _, _, o3, -⟩ := id hL
  obtain ⟨_, _, _, _, _, _, o10, -⟩ := id hLT
  obtain ⟨_, o1, -⟩ := id hT
  obtain ⟨_, _, o17, -⟩ := id hPa
  obtain ⟨_, _, _, o117, -⟩ := id hSe
  obtain ⟨⟨gs, o121, hgs⟩, hsl2, hsl3⟩ := id hSl
  have hl : lv_has ls 6 [(0, .ref (xa cx 0)), (1, .int (nI n)), (2, .long (lN r)), (4, .int (nI c0))] := hl
  refine lv_aload_n hx hb dX4_isSafeOrder_0 rfl (lv_at hl 0 rfl) ?_
  refine nv_get F hW (by omega) m0 rfl iX4 2 (by decide) tw_150 rfl dX4_isSafeOrder_1 ?_
  refine lv_aload_n hx hb dX4_isSafeOrder_4 rfl (lv_at hl 0 rfl) ?_
  refine nv_get F hW (by omega) m0 rfl iX4 1 (by decide) tw_149 rfl dX4_isSafeOrder_5 ?_
  refine cl_v (cl_run (rest := []) F hW e_X4_138 (c_copyFrom hI l h10b h3b (by omega) hLT hL (hk).1) ⟨Nat.le_of_ble_eq_true rfl, Nat.le_of_ble_eq_true rfl⟩ (by omega) o10 rfl rfl rfl hl (Nat.le_of_ble_eq_true rfl) dX4_isSafeOrder_8 ⟨Nat.zero_le _, Nat.zero_le _⟩) hW (fun μ1 H locs q_1 hW => ?_)
  obtain ⟨hL_1, ho_1⟩ := q_1
  obtain ⟨_, _, _, _, _, _, o10_1, -⟩ := id hL_1
  have hk_1 := hk
  have o0_1 := (ho_1 0 (by omega)).trans m0
  have o1_1 := (ho_1 1 (by omega)).trans o1
  have o3_1 := (ho_1 3 (by omega)).trans o3
  have o17_1 := (ho_1 17 (by omega)).trans o17
  have o117_1 := (ho_1 117 (by omega)).trans o117
  have o121_1 := (ho_1 121 (by omega)).trans o121
  have hLx3_1 := laneR_off hL ho_1 (by omega)
  refine lv_iconst (v := nI 0) hx hb dX4_isSafeOrder_11 (by decide) ?_
  refine lv_istore (lv' := [(5, .int (nI 0)), (0, .ref (xa cx 0)), (1, .int (nI n)), (2, .long (lN r)), (4, .int (nI c0))]) hx hb dX4_isSafeOrder_12 hl (by decide) rfl (fun ls hl => ?_)
  have LOOP : ∀ (d i : Nat)  (μ1 : ME) (H : Heap) (locs : List Loc) (ls : Array Slot), i + d = n → (laneR cx μ1 10 (sfL (AL S) n r c0 i)) → (off 10 7 μ μ1) → (sfB (AL S) n r c0 i = true) → St cx s μ1 H locs → lv_has ls 6 [(0, .ref (xa cx 0)), (1, .int (nI n)), (2, .long (lN r)), (4, .int (nI c0)), (5, .int (nI i))] → W p l e { frames := 4, cells := 0, slots := 0, locals := 115 } s m [.ref (xa cx 0), .int (nI n), .long (lN r), .int (nI c0)].toArray below meth c H locs 0 0 (MQ below (Ei cx (b2 (sfB (AL S) n r c0 n)) (fun μ1 => (∃ L1, laneR cx μ1 10 L1) ∧ off 10 7 μ μ1)) [.ref (xa cx 0), .int (nI n), .long (lN r), .int (nI c0)].toArray s 0 0 (xA cx)) (F0 m 14 ls []) := by
    intro d
    induction d with
    | zero =>
      intro i  μ1 H locs ls hid hLi ho1 hsb hW hl
      have p0 := (ho1 0 (by omega)).trans m0
      have p3 := (ho1 3 (by omega)).trans o3
      have p117 := (ho1 117 (by omega)).trans o117
      obtain ⟨_, _, _, _, _, _, p10, -⟩ := id hLi
      have hki := lok_sfL hk n r c0 i
      have hLx := laneR_off hL ho1 (by omega)
      refine lv_iload hx hb dX4_isSafeOrder_14 (lv_at hl 4 rfl) ?_
      refine lv_iload_n hx hb dX4_isSafeOrder_16 rfl (lv_at hl 1 rfl) ?_
      refine nv_cge (tgt := 55) F (by omega) (by omega) dX4_isSafeOrder_17 (by decide) (fun c_2 => ?_) (fun c_2 => ?_)
      · skip
        refine lv_iconst (v := nI 1) hx hb dX4_isSafeOrder_55 (by decide) ?_
        exact rt_ze F hr hlk hW (by have e : i = n := (by omega); rw [e] at hsb; rw [hsb]; rfl) ⟨⟨_, hLi⟩, (fun z hz => by rw [ho1 z (by omega)])⟩ dX4_isSafeOrder_56
      · skip
        exact absurd c_2 (by omega)
    | succ d ih =>
      intro i  μ1 H locs ls hid hLi ho1 hsb hW hl
      have p0 := (ho1 0 (by omega)).trans m0
      have p3 := (ho1 3 (by omega)).trans o3
      have p117 := (ho1 117 (by omega)).trans o117
      obtain ⟨_, _, _, _, _, _, p10, -⟩ := id hLi
      have hki := lok_sfL hk n r c0 i
      have hLx := laneR_off hL ho1 (by omega)
      refine lv_iload hx hb dX4_isSafeOrder_14 (lv_at hl 4 rfl) ?_
      refine lv_iload_n hx hb dX4_isSafeOrder_16 rfl (lv_at hl 1 rfl) ?_
      refine nv_cge (tgt := 55) F (by omega) (by omega) dX4_isSafeOrder_17 (by decide) (fun c_3 => ?_) (fun c_3 => ?_)
      · skip
        exact absurd c_3 (by omega)
      · skip
        refine lv_aload_n hx hb dX4_isSafeOrder_20 rfl (lv_at hl 0 rfl) ?_
        refine lv_iload_n hx hb dX4_isSafeOrder_21 rfl (lv_at hl 1 rfl) ?_
        refine lv_lload_n hx hb dX4_isSafeOrder_22 rfl (lv_at hl 2 rfl) ?_
        refine lv_iload_n hx hb dX4_isSafeOrder_23 rfl (lv_at hl 1 rfl) ?_
        refine lv_iload hx hb dX4_isSafeOrder_24 (lv_at hl 3 rfl) ?_
        refine lv_iload hx hb dX4_isSafeOrder_26 (lv_at hl 4 rfl) ?_
        refine cl_ip (cl_runS (rest := [.long (lN r), .int (nI n), .ref (xa cx 0)]) F hW e_X4_174 (c_moveAt hI l n c0 i (by omega) (by omega) (by omega)) ⟨Nat.le_of_ble_eq_true rfl, Nat.le_of_ble_eq_true rfl⟩ rfl rfl hl (Nat.le_of_ble_eq_true rfl) dX4_isSafeOrder_28 ⟨Nat.zero_le _, Nat.zero_le _⟩) hW (fun H locs hW => ?_)
        refine cl_ie (cl_run (rest := []) F hW e_X4_178 (c_canMove hI l hN (mainR_trial hM (fun z hz => by rw [ho1 z (by omega)]) ⟨_, hLi⟩) hA hB hLi hki (by omega) n r (mv n c0 i) (by omega) (by omega) (hmv i (by omega)) hr9) ⟨Nat.le_of_ble_eq_true rfl, Nat.le_of_ble_eq_true rfl⟩ (by omega) p0 rfl rfl rfl hl (Nat.le_of_ble_eq_true rfl) dX4_isSafeOrder_31 ⟨Nat.zero_le _, Nat.zero_le _⟩) hW (fun μ4 H locs q_4 hW => ?_)
        obtain ⟨hL_4, ho_4⟩ := q_4
        obtain ⟨_, _, _, _, _, _, o10_4, -⟩ := id hL_4
        have hk_4 := lok_dMv hki n r (mv n c0 i)
        have o0_4 := (ho_4 0 (by omega)).trans p0
        have o3_4 := (ho_4 3 (by omega)).trans p3
        have o117_4 := (ho_4 117 (by omega)).trans p117
        have hLx3_4 := laneR_off hLx ho_4 (by omega)
        refine nv_beq (tgt := 47) F dX4_isSafeOrder_34 (by decide) (fun c_5 => ?_) (fun c_5 => ?_)
        · skip
          refine lv_iconst (v := nI 0) hx hb dX4_isSafeOrder_47 (by decide) ?_
          have e1 : sfB (AL S) n r c0 (i + 1) = false := by show (sfB (AL S) n r c0 i && (_ && _)) = false; first | (rw [‹cMv (sfL (AL S) n r c0 i) n r (mv n c0 i) = false›]; simp; done) | (rw [decide_eq_false (fun z => absurd ((pop_0 _ (hF_lt (lok_dMv hki n r (mv n c0 i)).1)).mpr z) (by omega))]; simp)
          exact rt_ze F hr hlk hW (by rw [sfB_f e1 (by omega)]; rfl) ⟨⟨_, hL_4⟩, (fun z hz => by rw [ho_4 z (by omega)]; rw [ho1 z (by omega)])⟩ dX4_isSafeOrder_48
        · skip
          refine lv_aload_n hx hb dX4_isSafeOrder_37 rfl (lv_at hl 0 rfl) ?_
          refine nv_get F hW (by omega) o0_4 rfl iX4 2 (by decide) tw_150 rfl dX4_isSafeOrder_38 ?_
          refine cl_ie (cl_run (rest := []) F hW e_X4_103 (c_passHour hI l h10b hL_4 hk_4 (by omega)) ⟨Nat.le_of_ble_eq_true rfl, Nat.le_of_ble_eq_true rfl⟩ (by omega) o10_4 rfl rfl rfl hl (Nat.le_of_ble_eq_true rfl) dX4_isSafeOrder_41 ⟨Nat.zero_le _, Nat.zero_le _⟩) hW (fun μ6 H locs q_6 hW => ?_)
          obtain ⟨hL_6, ho_6⟩ := q_6
          obtain ⟨_, _, _, _, _, _, o10_6, -⟩ := id hL_6
          have hk_6 := lok_hour hk_4
          have o0_6 := (ho_6 0 (by omega)).trans o0_4
          have o3_6 := (ho_6 3 (by omega)).trans o3_4
          have o117_6 := (ho_6 117 (by omega)).trans o117_4
          have hLx3_6 := laneR_off hLx3_4 ho_6 (by omega)
          refine nv_zle (tgt := 49) F (by have := pop_le (hF (dMv (sfL (AL S) n r c0 i) n r (mv n c0 i))); omega) dX4_isSafeOrder_44 (by decide) (fun c_7 => ?_) (fun c_7 => ?_)
          · skip
            refine lv_iinc (v := ((nI (i + 1)))) (lv' := [(5, .int (nI (i + 1))), (0, .ref (xa cx 0)), (1, .int (nI n)), (2, .long (lN r)), (4, .int (nI c0))]) hx hb dX4_isSafeOrder_49 hl (k := 4) rfl (nI_add _ _) (by decide) rfl (fun ls hl => ?_)
            refine lv_goto (tgt := 14) hx hb dX4_isSafeOrder_52 (by decide) ?_
            have e1 : sfB (AL S) n r c0 (i + 1) = true := by show (sfB (AL S) n r c0 i && (_ && _)) = true; rw [hsb, ‹cMv (sfL (AL S) n r c0 i) n r (mv n c0 i) = true›, decide_eq_true ((pop_0 _ (hF_lt (lok_dMv hki n r (mv n c0 i)).1)).mp (by omega))]; rfl
            exact ih (i + 1) μ6 _ _ _ (by omega) hL_6 (fun z hz => by rw [ho_6 z (by omega)]; rw [ho_4 z (by omega)]; rw [ho1 z (by omega)]) e1 hW (lv_sub hl [1, 2, 3, 4, 0] rfl)
          · skip
            refine lv_iconst (v := nI 0) hx hb dX4_isSafeOrder_47 (by decide) ?_
            have e1 : sfB (AL S) n r c0 (i + 1) = false := by show (sfB (AL S) n r c0 i && (_ && _)) = false; first | (rw [‹cMv (sfL (AL S) n r c0 i) n r (mv n c0 i) = false›]; simp; done) | (rw [decide_eq_false (fun z => absurd ((pop_0 _ (hF_lt (lok_dMv hki n r (mv n c0 i)).1)).mpr z) (by omega))]; simp)
            exact rt_ze F hr hlk hW (by rw [sfB_f e1 (by omega)]; rfl) ⟨⟨_, hL_6⟩, (fun z hz => by rw [ho_6 z (by omega)]; rw [ho_4 z (by omega)]; rw [ho1 z (by omega)])⟩ dX4_isSafeOrder_48
  exact LOOP n 0 μ1 _ _ _ (by omega) hL_1 (fun z hz => by rw [ho_1 z (by omega)]) rfl hW (lv_sub hl [1, 2, 3, 4, 0] rfl)
