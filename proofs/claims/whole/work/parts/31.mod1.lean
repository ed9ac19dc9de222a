/-! the reference: a lane at a level of its row of numbers -/
def lv (f : Nat → Int32) (o : Nat) (L : LN) : Prop := (∀ i, i < Ln L → f (o + 0 + i) = nI (Lk L i) ∧ f (o + 6 + i) = nI (Ls L i) ∧ f (o + 12 + i) = nI (Ld L i) ∧ f (o + 18 + i) = nI (if lst L i then 1 else 0) ∧ f (o + 24 + i) = nI (Ll L i)) ∧ f (o + 30) = nI (Lh L)
theorem lv_cong {f g : Nat → Int32} {o : Nat} {L : LN} (h : lv f o L) (hn : Ln L ≤ 6) (e : ∀ i, o ≤ i → i < o + 31 → g i = f i) : lv g o L := by
  refine ⟨fun i hi => ?_, (e _ (by omega) (by omega)).trans h.2⟩
  have := h.1 i hi
  rw [e _ (by omega) (by omega), e _ (by omega) (by omega), e _ (by omega) (by omega), e _ (by omega) (by omega), e _ (by omega) (by omega)]
  exact this
theorem lv_move {f g : Nat → Int32} {o q : Nat} {L : LN} (h : lv f o L) (hn : Ln L ≤ 6) (e : ∀ i, i < 31 → g (q + i) = f (o + i)) : lv g q L := by
  refine ⟨fun i hi => ?_, (e 30 (by omega)).trans h.2⟩
  have := h.1 i hi
  have e0 := e (0 + i) (by omega)
  have e6 := e (6 + i) (by omega)
  have e12 := e (12 + i) (by omega)
  have e18 := e (18 + i) (by omega)
  have e24 := e (24 + i) (by omega)
  rw [Nat.add_assoc, Nat.add_assoc, Nat.add_assoc, Nat.add_assoc, Nat.add_assoc, e0, e6, e12, e18, e24, ← Nat.add_assoc, ← Nat.add_assoc, ← Nat.add_assoc, ← Nat.add_assoc, ← Nat.add_assoc]
  exact this
/-- what a level's methods see of the object -/
def mdV (cx : CX) (μ : ME) (lvl : Nat) (L : LN) : Prop := ∃ (rh tn ac nx se : Int32) (sx : Int64) (f1 fn fo fa : Nat → Int32),
  μ 136 = .inr (5, [.int (nI (Ln L)), .ref (xa cx 137), .ref (xa cx 138), .ref (xa cx 139), .int rh, .ref (xa cx 140), .int tn, .ref (xa cx 141), .ref (xa cx 142), .int ac, .int nx, .ref (xa cx 143), .int se, .ref (xa cx 144), .ref (xa cx 145), .ref (xa cx 146), .long sx, .ref (xa cx 147), .ref (xa cx 148)]) ∧
  μ 137 = .inl (xT cx 0, 6, .inl f1) ∧ μ 138 = .inl (xT cx 0, 62, .inl fn) ∧ μ 141 = .inl (xT cx 0, 6, .inl fo) ∧ μ 142 = .inl (xT cx 0, 6, .inl fa) ∧ (∀ i, i < Ln L → f1 i = nI (Lg L i)) ∧ lv fn (31 * lvl) L
/-- in(v, a, b) of longs -/
def inL (v a b : Int64) : Bool := decide (a ≤ v ∧ v ≤ b)
theorem i64 (x : Int32) : x.toInt64.toInt = x.toInt := by simp
theorem inL_R {x : Int32} {k : Nat} (hk : k < 2147483647) : inL x.toInt64 (lN 0) (lN k) = inR x (k + 1) := by
  apply decide_eq_decide.mpr
  rw [Int64.le_iff_toInt_le, Int64.le_iff_toInt_le, i64, pk_lT (by omega), pk_lT (by omega)]
  omega
theorem inL_car (x : Int32) : inL x.toInt64 (lN 1) (lN 9) = carI x := by
  apply decide_eq_decide.mpr
  rw [Int64.le_iff_toInt_le, Int64.le_iff_toInt_le, i64, pk_lT (by decide), pk_lT (by decide)]
  omega
theorem inL_14 (x : Int32) : inL x.toInt64 (lN 1) (lN 4) = c14 x := by
  apply decide_eq_decide.mpr
  rw [Int64.le_iff_toInt_le, Int64.le_iff_toInt_le, i64, pk_lT (by decide), pk_lT (by decide)]
  omega
theorem inL_30 (x : Int32) : inL x.toInt64 (lN 1) (lN 30) = c30 x := by
  apply decide_eq_decide.mpr
  rw [Int64.le_iff_toInt_le, Int64.le_iff_toInt_le, i64, pk_lT (by decide), pk_lT (by decide)]
  omega
theorem inL_half (x : Int32) : inL x.toInt64 (lN 0) (lN 1) = halI x := by
  apply decide_eq_decide.mpr
  rw [Int64.le_iff_toInt_le, Int64.le_iff_toInt_le, i64, pk_lT (by decide), pk_lT (by decide)]
  constructor
  · intro h
    rcases (show x.toInt = 0 ∨ x.toInt = 1 by omega) with q | q
    · exact Or.inl (Int32.toInt_inj.mp (by rw [q]; rfl))
    · exact Or.inr (Int32.toInt_inj.mp (by rw [q]; rfl))
  · intro h
    rcases h with rfl | rfl
    · exact ⟨by decide, by decide⟩
    · exact ⟨by decide, by decide⟩
theorem inL_h {x : Int32} {n : Nat} (hn : n ≤ 6) : inL x.toInt64 (lN 0) (nI n - nI 1).toInt64 = inR x n := by
  apply decide_eq_decide.mpr
  rw [Int64.le_iff_toInt_le, Int64.le_iff_toInt_le, i64, i64, pk_lT (by decide), pk_sub_toInt (by omega) (by decide)]
  omega
theorem inL_N {v a b : Nat} (hv : v < 9223372036854775808) (ha : a < 9223372036854775808) (hb : b < 9223372036854775808) : inL (lN v) (lN a) (lN b) = decide (a ≤ v ∧ v ≤ b) := by
  apply decide_eq_decide.mpr
  rw [pk_lLE ha hv, pk_lLE hv hb]

set_option maxHeartbeats 4000000 in
set_option maxRecDepth 100000 in
theorem m_in {cx : CX} (hI : xI cx) (l : Launch) {μ : ME} (v a b : Int64) : MT cx l yX5_in cX5_in 6 (some .boolean) 0 0 [.long (v), .long (a), .long (b)] μ (Pi cx μ (b2 (inL v a b))) := by
  refine mt_of hI (by decide) (Nat.le_of_ble_eq_true rfl) ?_
  intro p e s m below meth c ls F hr hlk hW hl
  have hx := F.1.1
  have hb := F.1.2.1
  have hts := F.1.2.2.2.2
  have hl : lv_has ls 6 [(0, .long (v)), (2, .long (a)), (4, .long (b))] := hl
  refine lv_lload_n hx hb dX5_in_0 rfl (lv_at hl 0 rfl) ?_
  refine lv_lload_n hx hb dX5_in_1 rfl (lv_at hl 1 rfl) ?_
  refine W.lcmp hx hb dX5_in_2 ?_
  refine lv_if_lt (tgt := 17) hx hb dX5_in_3 (by decide) (fun c_1 => ?_) (fun c_1 => ?_)
  · skip
    refine lv_iconst (v := nI 0) hx hb dX5_in_17 (by decide) ?_
    exact rt_zp F hr hlk hW (b2_f (fun z => by first | (have q := (‹lg_cmp v a < 0›); rw [lg_cmp_lt] at q; exact absurd z.1 (Int64.not_le.mpr q)) | (have q := (‹0 < lg_cmp v b›); rw [lg_cmp_gt] at q; exact absurd z.2 (Int64.not_le.mpr q)))) rfl dX5_in_18
  · skip
    refine lv_lload_n hx hb dX5_in_6 rfl (lv_at hl 0 rfl) ?_
    refine lv_lload hx hb dX5_in_7 (lv_at hl 2 rfl) ?_
    refine W.lcmp hx hb dX5_in_9 ?_
    refine lv_if_gt (tgt := 17) hx hb dX5_in_10 (by decide) (fun c_2 => ?_) (fun c_2 => ?_)
    · skip
      refine lv_iconst (v := nI 0) hx hb dX5_in_17 (by decide) ?_
      exact rt_zp F hr hlk hW (b2_f (fun z => by first | (have q := (‹lg_cmp v a < 0›); rw [lg_cmp_lt] at q; exact absurd z.1 (Int64.not_le.mpr q)) | (have q := (‹0 < lg_cmp v b›); rw [lg_cmp_gt] at q; exact absurd z.2 (Int64.not_le.mpr q)))) rfl dX5_in_18
    · skip
      refine lv_iconst (v := nI 1) hx hb dX5_in_13 (by decide) ?_
      refine lv_goto (tgt := 18) hx hb dX5_in_14 (by decide) ?_
      exact rt_zp F hr hlk hW (b2_t ⟨by have q := (‹¬ lg_cmp v a < 0›); rw [lg_cmp_lt] at q; exact Int64.not_lt.mp q, by have q := (‹¬ 0 < lg_cmp v b›); rw [lg_cmp_gt] at q; exact Int64.not_lt.mp q⟩) rfl dX5_in_18

set_option maxHeartbeats 4000000 in
set_option maxRecDepth 100000 in
theorem m_has {cx : CX} (hI : xI cx) (l : Launch) {μ : ME} (q k : Nat) (hq : q < 64) (hk : k < 32) : MT cx l yX5_has cX5_has 2 (some .boolean) 0 0 [.int (nI q), .int (nI k)] μ (Pi cx μ (b2 (q.testBit k))) := by
  refine mt_of hI (by decide) (Nat.le_of_ble_eq_true rfl) ?_
  intro p e s m below meth c ls F hr hlk hW hl
  have hx := F.1.1
  have hb := F.1.2.1
  have hts := F.1.2.2.2.2
  have hl : lv_has ls 2 [(0, .int (nI q)), (1, .int (nI k))] := hl
  refine lv_iload_n hx hb dX5_has_0 rfl (lv_at hl 0 rfl) ?_
  refine lv_iload_n hx hb dX5_has_1 rfl (lv_at hl 1 rfl) ?_
  refine nv_shr F (by omega) (by omega) dX5_has_2 ?_
  refine lv_iconst (v := nI 1) hx hb dX5_has_3 (by decide) ?_
  refine nv_and F dX5_has_4 ?_
  refine nv_top (y := ((b2 (q.testBit k)))) (bit_b2 _ _) ?_
  refine lv_iconst (v := nI 1) hx hb dX5_has_5 (by decide) ?_
  refine nv_b1ne (tgt := 13) F dX5_has_6 (by decide) (fun c_1 => ?_) (fun c_1 => ?_)
  · skip
    refine lv_iconst (v := nI 0) hx hb dX5_has_13 (by decide) ?_
    exact rt_zp F hr hlk hW (by rw [‹q.testBit k = _›]; rfl) rfl dX5_has_14
  · skip
    refine lv_iconst (v := nI 1) hx hb dX5_has_9 (by decide) ?_
    refine lv_goto (tgt := 14) hx hb dX5_has_10 (by decide) ?_
    exact rt_zp F hr hlk hW (by rw [‹q.testBit k = _›]; rfl) rfl dX5_has_14

def onR (q : Nat) : Nat → Nat
  | 0 => 0
  | k + 1 => onR q k + (if q.testBit k then 1 else 0)
theorem onR_pop : ∀ q, q < 64 → onR q 8 = pop q := by decide +kernel

set_option maxHeartbeats 4000000 in
set_option maxRecDepth 100000 in
theorem m_ones {cx : CX} (hI : xI cx) (l : Launch) {μ : ME} (q : Nat) (hq : q < 64) : MT cx l yX5_ones cX5_ones 3 (some .int) 0 0 [.int (nI q)] μ (Pi cx μ (nI (pop q))) := by
  refine mt_of hI (by decide) (Nat.le_of_ble_eq_true rfl) ?_
  intro p e s m below meth c ls F hr hlk hW hl
  have hx := F.1.1
  have hb := F.1.2.1
  have hts := F.1.2.2.2.2
  have hl : lv_has ls 3 [(0, .int (nI q))] := hl
  refine lv_iconst (v := nI 0) hx hb dX5_ones_0 (by decide) ?_
  refine lv_istore_n (lv' := [(1, .int (nI 0)), (0, .int (nI q))]) hx hb dX5_ones_1 rfl hl (by decide) rfl (fun ls hl => ?_)
  refine lv_iconst (v := nI 0) hx hb dX5_ones_2 (by decide) ?_
  refine lv_istore_n (lv' := [(2, .int (nI 0)), (1, .int (nI 0)), (0, .int (nI q))]) hx hb dX5_ones_3 rfl hl (by decide) rfl (fun ls hl => ?_)
  have LOOP : ∀ (d i : Nat)  (H : Heap) (locs : List Loc) (ls : Array Slot), i + d = 8 → St cx s μ H locs → lv_has ls 3 [(0, .int (nI q)), (1, .int (nI (onR q i))), (2, .int (nI i))] → W p l e { frames := 0, cells := 0, slots := 0, locals := 0 } s m [.int (nI q)].toArray below meth c H locs 0 0 (MQ below (Pi cx μ (nI (pop q))) [.int (nI q)].toArray s 0 0 (xA cx)) (F0 m 4 ls []) := by
    intro d
    induction d with
    | zero =>
      intro i   H locs ls hid  hW hl
      refine lv_iload_n hx hb dX5_ones_4 rfl (lv_at hl 2 rfl) ?_
      refine lv_bipush (v := nI 8) hx hb dX5_ones_5 (by decide) ?_
      refine nv_cge (tgt := 24) F (by omega) (by omega) dX5_ones_7 (by decide) (fun c_1 => ?_) (fun c_1 => ?_)
      · skip
        refine lv_iload_n hx hb dX5_ones_24 rfl (lv_at hl 1 rfl) ?_
        exact rt_ip F hr hlk hW (by rw [← onR_pop q hq, show i = 8 by omega]) rfl dX5_ones_25
      · skip
        exact absurd c_1 (by omega)
    | succ d ih =>
      intro i   H locs ls hid  hW hl
      refine lv_iload_n hx hb dX5_ones_4 rfl (lv_at hl 2 rfl) ?_
      refine lv_bipush (v := nI 8) hx hb dX5_ones_5 (by decide) ?_
      refine nv_cge (tgt := 24) F (by omega) (by omega) dX5_ones_7 (by decide) (fun c_2 => ?_) (fun c_2 => ?_)
      · skip
        exact absurd c_2 (by omega)
      · skip
        refine lv_iload_n hx hb dX5_ones_10 rfl (lv_at hl 1 rfl) ?_
        refine lv_iload_n hx hb dX5_ones_11 rfl (lv_at hl 0 rfl) ?_
        refine lv_iload_n hx hb dX5_ones_12 rfl (lv_at hl 2 rfl) ?_
        refine nv_shr F (by omega) (by omega) dX5_ones_13 ?_
        refine lv_iconst (v := nI 1) hx hb dX5_ones_14 (by decide) ?_
        refine nv_and F dX5_ones_15 ?_
        refine nv_top (y := ((nI (if q.testBit i then 1 else 0)))) (by rw [bit_and]) ?_
        refine nv_add F dX5_ones_16 ?_
        refine lv_istore_n (lv' := [(1, .int (nI ((onR q i) + (if q.testBit i then 1 else 0)))), (0, .int (nI q)), (2, .int (nI i))]) hx hb dX5_ones_17 rfl hl (by decide) rfl (fun ls hl => ?_)
        refine lv_iinc (v := ((nI (i + 1)))) (lv' := [(2, .int (nI (i + 1))), (1, .int (nI ((onR q i) + (if q.testBit i then 1 else 0)))), (0, .int (nI q))]) hx hb dX5_ones_18 hl (k := 2) rfl (nI_add _ _) (by decide) rfl (fun ls hl => ?_)
        refine lv_goto (tgt := 4) hx hb dX5_ones_21 (by decide) ?_
        exact ih (i + 1) _ _ _ (by omega) hW (lv_sub hl [2, 1, 0] rfl)
  exact LOOP 8 0 _ _ _ (by omega) hW (lv_sub hl [2, 1, 0] rfl)

def mdeI (c : Nat) : Int32 := if c = 108 then nI 0 else if c = 114 then nI 1 else if c = 109 then nI 2 else -9

set_option maxHeartbeats 4000000 in
set_option maxRecDepth 100000 in
theorem m_deedOf {cx : CX} (hI : xI cx) (l : Launch) {μ : ME} (k : Nat) (hk : k < 1000) : MT cx l yX5_deedOf cX5_deedOf 1 (some .int) 0 0 [.int (nI k)] μ (Pi cx μ (mdeI k)) := by
  refine mt_of hI (by decide) (Nat.le_of_ble_eq_true rfl) ?_
  intro p e s m below meth c ls F hr hlk hW hl
  have hx := F.1.1
  have hb := F.1.2.1
  have hts := F.1.2.2.2.2
  have hl : lv_has ls 1 [(0, .int (nI k))] := hl
  refine lv_iload_n hx hb dX5_deedOf_0 rfl (lv_at hl 0 rfl) ?_
  refine lv_bipush (v := nI 108) hx hb dX5_deedOf_1 (by decide) ?_
  refine nv_cne (tgt := 10) F (by omega) (by omega) dX5_deedOf_3 (by decide) (fun c_1 => ?_) (fun c_1 => ?_)
  · skip
    refine lv_iload_n hx hb dX5_deedOf_10 rfl (lv_at hl 0 rfl) ?_
    refine lv_bipush (v := nI 114) hx hb dX5_deedOf_11 (by decide) ?_
    refine nv_cne (tgt := 20) F (by omega) (by omega) dX5_deedOf_13 (by decide) (fun c_2 => ?_) (fun c_2 => ?_)
    · skip
      refine lv_iload_n hx hb dX5_deedOf_20 rfl (lv_at hl 0 rfl) ?_
      refine lv_bipush (v := nI 109) hx hb dX5_deedOf_21 (by decide) ?_
      refine nv_cne (tgt := 30) F (by omega) (by omega) dX5_deedOf_23 (by decide) (fun c_3 => ?_) (fun c_3 => ?_)
      · skip
        refine lv_bipush (v := (-9)) hx hb dX5_deedOf_30 (by decide) ?_
        exact rt_ip F hr hlk hW (by unfold mdeI; simp [*]) rfl dX5_deedOf_32
      · skip
        refine lv_iconst (v := nI 2) hx hb dX5_deedOf_26 (by decide) ?_
        refine lv_goto (tgt := 32) hx hb dX5_deedOf_27 (by decide) ?_
        exact rt_ip F hr hlk hW (by unfold mdeI; simp [*]) rfl dX5_deedOf_32
    · skip
      refine lv_iconst (v := nI 1) hx hb dX5_deedOf_16 (by decide) ?_
      refine lv_goto (tgt := 32) hx hb dX5_deedOf_17 (by decide) ?_
      exact rt_ip F hr hlk hW (by unfold mdeI; simp [*]) rfl dX5_deedOf_32
  · skip
    refine lv_iconst (v := nI 0) hx hb dX5_deedOf_6 (by decide) ?_
    refine lv_goto (tgt := 32) hx hb dX5_deedOf_7 (by decide) ?_
    exact rt_ip F hr hlk hW (by unfold mdeI; simp [*]) rfl dX5_deedOf_32

set_option maxHeartbeats 4000000 in
set_option maxRecDepth 100000 in
theorem m_isHouse {cx : CX} (hI : xI cx) (l : Launch) {μ : ME} {lvl : Nat} {L : LN} {B : Nat} (hN : 149 ≤ xN cx) (hV : mdV cx μ lvl L) (hk : lok L B) (hlv : lvl ≤ 1) (hB : B < 900000000) (h : Int32) : MT cx l yX5_isHouse cX5_isHouse 2 (some .boolean) 1 25 [.ref (xa cx 136), .int h] μ (Pi cx μ (b2 (inR h (Ln L)))) := by
  refine mt_of hI (by decide) (Nat.le_of_ble_eq_true rfl) ?_
  intro p e s m below meth c ls F hr hlk hW hl
  have hx := F.1.1
  have hb := F.1.2.1
  have hts := F.1.2.2.2.2
  obtain ⟨rh, tn, ac, nx, se, sx, f1, fn, fo, fa, g136, g137, g138, g141, g142, hg, hv⟩ := id hV
  have hn6 := hk.1
  have hk4 := hk.2.2.2.1
  have hU := lok_U hk
  have hl : lv_has ls 2 [(0, .ref (xa cx 136)), (1, .int h)] := hl
  refine lv_iload_n hx hb dX5_isHouse_0 rfl (lv_at hl 1 rfl) ?_
  refine lv_i2l hx hb dX5_isHouse_1 rfl ?_
  refine lv_lconst (v := lN 0) hx hb dX5_isHouse_2 (by decide) ?_
  refine lv_aload_n hx hb dX5_isHouse_3 rfl (lv_at hl 0 rfl) ?_
  refine nv_get F hW (by omega) g136 rfl iX5 0 (by decide) tw_629 rfl dX5_isHouse_4 ?_
  refine lv_iconst (v := nI 1) hx hb dX5_isHouse_7 (by decide) ?_
  refine lv_isub hx hb dX5_isHouse_8 ?_
  refine lv_i2l hx hb dX5_isHouse_9 rfl ?_
  refine cl_ip (cl_runS (rest := []) F hW e_X5_49 (m_in hI l ((h.toInt64)) ((lN 0)) ((((((nI (Ln L))) - ((nI 1)))).toInt64))) ⟨Nat.le_of_ble_eq_true rfl, Nat.le_of_ble_eq_true rfl⟩ rfl rfl hl (Nat.le_of_ble_eq_true rfl) dX5_isHouse_10 ⟨Nat.zero_le _, Nat.zero_le _⟩) hW (fun H locs hW => ?_)
  refine nv_top (y := ((b2 (inR h (Ln L))))) (congrArg b2 (inL_h hn6)) ?_
  exact rt_zp F hr hlk hW rfl rfl dX5_isHouse_13

theorem m_isHouseN {cx : CX} (hI : xI cx) (l : Launch) {μ : ME} {lvl : Nat} {L : LN} {B : Nat} (hN : 149 ≤ xN cx) (hV : mdV cx μ lvl L) (hk : lok L B) (hlv : lvl ≤ 1) (hB : B < 900000000) (j : Nat) (hj : j < 2147483648) : MT cx l yX5_isHouse cX5_isHouse 2 (some .boolean) 1 25 [.ref (xa cx 136), .int (nI j)] μ (Pi cx μ (b2 (decide (j < Ln L)))) := by
  rw [← inR_nI hj]
  exact m_isHouse hI l hN hV hk hlv hB (nI j)

def prt (L : LN) (p j : Nat) : Nat := if p = 0 then Lk L j else if p = 6 then Ls L j else if p = 12 then Ld L j else if p = 18 then (if lst L j then 1 else 0) else Ll L j
theorem lv_prt {f : Nat → Int32} {o : Nat} {L : LN} {p j : Nat} (h : lv f o L) (hj : j < Ln L) (hp : p = 0 ∨ p = 6 ∨ p = 12 ∨ p = 18 ∨ p = 24) : f (o + p + j) = nI (prt L p j) := by
  have := h.1 j hj
  rcases hp with rfl | rfl | rfl | rfl | rfl
  · exact this.1
  · exact this.2.1
  · exact this.2.2.1
  · exact this.2.2.2.1
  · exact this.2.2.2.2

set_option maxHeartbeats 4000000 in
set_option maxRecDepth 100000 in
theorem m_at {cx : CX} (hI : xI cx) (l : Launch) {μ : ME} {lvl : Nat} {L : LN} {B : Nat} (hN : 149 ≤ xN cx) (hV : mdV cx μ lvl L) (hk : lok L B) (hlv : lvl ≤ 1) (hB : B < 900000000) (p0 j : Nat) (hp : p0 = 0 ∨ p0 = 6 ∨ p0 = 12 ∨ p0 = 18 ∨ p0 = 24) (hj : j < Ln L) : MT cx l yX5_at cX5_at 4 (some .int) 0 0 [.ref (xa cx 136), .int (nI lvl), .int (nI p0), .int (nI j)] μ (Pi cx μ (nI (prt L p0 j))) := by
  refine mt_of hI (by decide) (Nat.le_of_ble_eq_true rfl) ?_
  intro p e s m below meth c ls F hr hlk hW hl
  have hx := F.1.1
  have hb := F.1.2.1
  have hts := F.1.2.2.2.2
  obtain ⟨rh, tn, ac, nx, se, sx, f1, fn, fo, fa, g136, g137, g138, g141, g142, hg, hv⟩ := id hV
  have hn6 := hk.1
  have hk4 := hk.2.2.2.1
  have hU := lok_U hk
  have hl : lv_has ls 4 [(0, .ref (xa cx 136)), (1, .int (nI lvl)), (2, .int (nI p0)), (3, .int (nI j))] := hl
  refine lv_aload_n hx hb dX5_at_0 rfl (lv_at hl 0 rfl) ?_
  refine nv_get F hW (by omega) g136 rfl iX5 2 (by decide) tw_631 rfl dX5_at_1 ?_
  refine lv_bipush (v := nI 31) hx hb dX5_at_4 (by decide) ?_
  refine lv_iload_n hx hb dX5_at_6 rfl (lv_at hl 1 rfl) ?_
  refine nv_mul F dX5_at_7 ?_
  refine lv_iload_n hx hb dX5_at_8 rfl (lv_at hl 2 rfl) ?_
  refine nv_add F dX5_at_9 ?_
  refine lv_iload_n hx hb dX5_at_10 rfl (lv_at hl 3 rfl) ?_
  refine nv_add F dX5_at_11 ?_
  refine nv_ialdN (x := ((nI (prt L p0 j)))) F hW (by omega) g138 (by omega) (by decide) (lv_prt hv hj hp) dX5_at_12 ?_
  exact rt_ip F hr hlk hW rfl rfl dX5_at_13

theorem m_at0 {cx : CX} (hI : xI cx) (l : Launch) {μ : ME} {lvl : Nat} {L : LN} {B : Nat} (hN : 149 ≤ xN cx) (hV : mdV cx μ lvl L) (hk : lok L B) (hlv : lvl ≤ 1) (hB : B < 900000000) (j : Nat) (hj : j < Ln L) : MT cx l yX5_at cX5_at 4 (some .int) 0 0 [.ref (xa cx 136), .int (nI lvl), .int (nI 0), .int (nI j)] μ (Pi cx μ (nI (Lk L j))) := by
  exact m_at hI l hN hV hk hlv hB 0 j (by omega) hj

theorem m_at6 {cx : CX} (hI : xI cx) (l : Launch) {μ : ME} {lvl : Nat} {L : LN} {B : Nat} (hN : 149 ≤ xN cx) (hV : mdV cx μ lvl L) (hk : lok L B) (hlv : lvl ≤ 1) (hB : B < 900000000) (j : Nat) (hj : j < Ln L) : MT cx l yX5_at cX5_at 4 (some .int) 0 0 [.ref (xa cx 136), .int (nI lvl), .int (nI 6), .int (nI j)] μ (Pi cx μ (nI (Ls L j))) := by
  exact m_at hI l hN hV hk hlv hB 6 j (by omega) hj

theorem m_at12 {cx : CX} (hI : xI cx) (l : Launch) {μ : ME} {lvl : Nat} {L : LN} {B : Nat} (hN : 149 ≤ xN cx) (hV : mdV cx μ lvl L) (hk : lok L B) (hlv : lvl ≤ 1) (hB : B < 900000000) (j : Nat) (hj : j < Ln L) : MT cx l yX5_at cX5_at 4 (some .int) 0 0 [.ref (xa cx 136), .int (nI lvl), .int (nI 12), .int (nI j)] μ (Pi cx μ (nI (Ld L j))) := by
  exact m_at hI l hN hV hk hlv hB 12 j (by omega) hj

theorem m_at18 {cx : CX} (hI : xI cx) (l : Launch) {μ : ME} {lvl : Nat} {L : LN} {B : Nat} (hN : 149 ≤ xN cx) (hV : mdV cx μ lvl L) (hk : lok L B) (hlv : lvl ≤ 1) (hB : B < 900000000) (j : Nat) (hj : j < Ln L) : MT cx l yX5_at cX5_at 4 (some .int) 0 0 [.ref (xa cx 136), .int (nI lvl), .int (nI 18), .int (nI j)] μ (Pi cx μ (b2 (lst L j))) := by
  rw [b2_n]; exact m_at hI l hN hV hk hlv hB 18 j (by omega) hj

theorem m_at24 {cx : CX} (hI : xI cx) (l : Launch) {μ : ME} {lvl : Nat} {L : LN} {B : Nat} (hN : 149 ≤ xN cx) (hV : mdV cx μ lvl L) (hk : lok L B) (hlv : lvl ≤ 1) (hB : B < 900000000) (j : Nat) (hj : j < Ln L) : MT cx l yX5_at cX5_at 4 (some .int) 0 0 [.ref (xa cx 136), .int (nI lvl), .int (nI 24), .int (nI j)] μ (Pi cx μ (nI (Ll L j))) := by
  exact m_at hI l hN hV hk hlv hB 24 j (by omega) hj

set_option maxHeartbeats 4000000 in
set_option maxRecDepth 100000 in
theorem m_givesOf {cx : CX} (hI : xI cx) (l : Launch) {μ : ME} {lvl : Nat} {L : LN} {B : Nat} (hN : 149 ≤ xN cx) (hV : mdV cx μ lvl L) (hk : lok L B) (hlv : lvl ≤ 1) (hB : B < 900000000) (j : Nat) (hj : j < Ln L) : MT cx l yX5_givesOf cX5_givesOf 5 (some .int) 1 23 [.ref (xa cx 136), .int (nI lvl), .int (nI j)] μ (Pi cx μ (nI (lgi L j))) := by
  refine mt_of hI (by decide) (Nat.le_of_ble_eq_true rfl) ?_
  intro p e s m below meth c ls F hr hlk hW hl
  have hx := F.1.1
  have hb := F.1.2.1
  have hts := F.1.2.2.2.2
  obtain ⟨rh, tn, ac, nx, se, sx, f1, fn, fo, fa, g136, g137, g138, g141, g142, hg, hv⟩ := id hV
  have hn6 := hk.1
  have hk4 := hk.2.2.2.1
  have hU := lok_U hk
  have hl : lv_has ls 5 [(0, .ref (xa cx 136)), (1, .int (nI lvl)), (2, .int (nI j))] := hl
  refine lv_aload_n hx hb dX5_givesOf_0 rfl (lv_at hl 0 rfl) ?_
  refine lv_iload_n hx hb dX5_givesOf_1 rfl (lv_at hl 1 rfl) ?_
  refine lv_bipush (v := nI 24) hx hb dX5_givesOf_2 (by decide) ?_
  refine lv_iload_n hx hb dX5_givesOf_4 rfl (lv_at hl 2 rfl) ?_
  refine cl_ip (cl_run (rest := []) F hW e_X5_80 (m_at24 hI l hN hV hk hlv hB j (by omega)) ⟨Nat.le_of_ble_eq_true rfl, Nat.le_of_ble_eq_true rfl⟩ (by omega) g136 rfl rfl rfl hl (Nat.le_of_ble_eq_true rfl) dX5_givesOf_5 ⟨Nat.zero_le _, Nat.zero_le _⟩) hW (fun H locs hW => ?_)
  refine lv_istore_n (lv' := [(3, .int (nI (Ll L j))), (0, .ref (xa cx 136)), (1, .int (nI lvl)), (2, .int (nI j))]) hx hb dX5_givesOf_8 rfl hl (by decide) rfl (fun ls hl => ?_)
  refine lv_aload_n hx hb dX5_givesOf_9 rfl (lv_at hl 1 rfl) ?_
  refine lv_iload_n hx hb dX5_givesOf_10 rfl (lv_at hl 2 rfl) ?_
  refine lv_iconst (v := nI 0) hx hb dX5_givesOf_11 (by decide) ?_
  refine lv_iload_n hx hb dX5_givesOf_12 rfl (lv_at hl 3 rfl) ?_
  refine cl_ip (cl_run (rest := []) F hW e_X5_80 (m_at0 hI l hN hV hk hlv hB j (by omega)) ⟨Nat.le_of_ble_eq_true rfl, Nat.le_of_ble_eq_true rfl⟩ (by omega) g136 rfl rfl rfl hl (Nat.le_of_ble_eq_true rfl) dX5_givesOf_13 ⟨Nat.zero_le _, Nat.zero_le _⟩) hW (fun H locs hW => ?_)
  refine lv_istore (lv' := [(4, .int (nI (Lk L j))), (3, .int (nI (Ll L j))), (0, .ref (xa cx 136)), (1, .int (nI lvl)), (2, .int (nI j))]) hx hb dX5_givesOf_16 hl (by decide) rfl (fun ls hl => ?_)
  refine lv_aload_n hx hb dX5_givesOf_18 rfl (lv_at hl 2 rfl) ?_
  refine lv_iload_n hx hb dX5_givesOf_19 rfl (lv_at hl 3 rfl) ?_
  refine lv_bipush (v := nI 18) hx hb dX5_givesOf_20 (by decide) ?_
  refine lv_iload_n hx hb dX5_givesOf_22 rfl (lv_at hl 4 rfl) ?_
  refine cl_ip (cl_run (rest := []) F hW e_X5_80 (m_at18 hI l hN hV hk hlv hB j (by omega)) ⟨Nat.le_of_ble_eq_true rfl, Nat.le_of_ble_eq_true rfl⟩ (by omega) g136 rfl rfl rfl hl (Nat.le_of_ble_eq_true rfl) dX5_givesOf_23 ⟨Nat.zero_le _, Nat.zero_le _⟩) hW (fun H locs hW => ?_)
  refine nv_beq (tgt := 35) F dX5_givesOf_26 (by decide) (fun c_1 => ?_) (fun c_1 => ?_)
  · skip
    refine lv_iconst (v := nI 0) hx hb dX5_givesOf_35 (by decide) ?_
    exact rt_ip F hr hlk hW (by unfold lgi; first | (rw [‹lst L j = false›]; rfl) | (rw [‹lst L j = true›, if_pos rfl]; unfold gv; have h4 := hk.2.2.2.2.1 j ‹lst L j = true›; have h5 := (hk4 j hj).1; congr 1; first | (rw [if_neg (by omega), if_neg (by omega), if_neg (by omega)]; done) | (rw [if_neg (by omega), if_pos (by omega)]; try omega) | (rw [if_neg (by omega), if_neg (by omega), if_pos (by omega)]; try omega) | (rw [if_pos (by omega)]))) rfl dX5_givesOf_36
  · skip
    refine lv_iload hx hb dX5_givesOf_29 (lv_at hl 0 rfl) ?_
    refine lv_iconst (v := nI 2) hx hb dX5_givesOf_31 (by decide) ?_
    refine nv_cne (tgt := 37) F (by have := (hk4 j hj).1; omega) (by omega) dX5_givesOf_32 (by decide) (fun c_2 => ?_) (fun c_2 => ?_)
    · skip
      refine lv_iload hx hb dX5_givesOf_37 (lv_at hl 0 rfl) ?_
      refine lv_iconst (v := nI 1) hx hb dX5_givesOf_39 (by decide) ?_
      refine nv_cne (tgt := 56) F (by have := (hk4 j hj).1; omega) (by omega) dX5_givesOf_40 (by decide) (fun c_3 => ?_) (fun c_3 => ?_)
      · skip
        refine lv_iload hx hb dX5_givesOf_56 (lv_at hl 0 rfl) ?_
        refine lv_iconst (v := nI 3) hx hb dX5_givesOf_58 (by decide) ?_
        refine nv_cne (tgt := 70) F (by have := (hk4 j hj).1; omega) (by omega) dX5_givesOf_59 (by decide) (fun c_4 => ?_) (fun c_4 => ?_)
        · skip
          refine lv_iload_n hx hb dX5_givesOf_70 rfl (lv_at hl 1 rfl) ?_
          refine lv_iconst (v := nI 2) hx hb dX5_givesOf_71 (by decide) ?_
          refine nv_div F (by have := lok_l hk j; omega) (by omega) (by omega) dX5_givesOf_72 ?_
          exact rt_ip F hr hlk hW (by unfold lgi; first | (rw [‹lst L j = false›]; rfl) | (rw [‹lst L j = true›, if_pos rfl]; unfold gv; have h4 := hk.2.2.2.2.1 j ‹lst L j = true›; have h5 := (hk4 j hj).1; congr 1; first | (rw [if_neg (by omega), if_neg (by omega), if_neg (by omega)]; done) | (rw [if_neg (by omega), if_pos (by omega)]; try omega) | (rw [if_neg (by omega), if_neg (by omega), if_pos (by omega)]; try omega) | (rw [if_pos (by omega)]))) rfl dX5_givesOf_73
        · skip
          refine lv_iload_n hx hb dX5_givesOf_62 rfl (lv_at hl 1 rfl) ?_
          refine lv_iconst (v := nI 1) hx hb dX5_givesOf_63 (by decide) ?_
          refine nv_add F dX5_givesOf_64 ?_
          refine lv_iconst (v := nI 2) hx hb dX5_givesOf_65 (by decide) ?_
          refine nv_div F (by have := lok_l hk j; omega) (by omega) (by omega) dX5_givesOf_66 ?_
          refine lv_goto (tgt := 73) hx hb dX5_givesOf_67 (by decide) ?_
          exact rt_ip F hr hlk hW (by unfold lgi; first | (rw [‹lst L j = false›]; rfl) | (rw [‹lst L j = true›, if_pos rfl]; unfold gv; have h4 := hk.2.2.2.2.1 j ‹lst L j = true›; have h5 := (hk4 j hj).1; congr 1; first | (rw [if_neg (by omega), if_neg (by omega), if_neg (by omega)]; done) | (rw [if_neg (by omega), if_pos (by omega)]; try omega) | (rw [if_neg (by omega), if_neg (by omega), if_pos (by omega)]; try omega) | (rw [if_pos (by omega)]))) rfl dX5_givesOf_73
      · skip
        refine lv_iload_n hx hb dX5_givesOf_43 rfl (lv_at hl 1 rfl) ?_
        refine lv_iconst (v := nI 3) hx hb dX5_givesOf_44 (by decide) ?_
        refine nv_cge (tgt := 52) F (by have := lok_l hk j; omega) (by omega) dX5_givesOf_45 (by decide) (fun c_5 => ?_) (fun c_5 => ?_)
        · skip
          refine lv_iload_n hx hb dX5_givesOf_52 rfl (lv_at hl 1 rfl) ?_
          refine lv_iconst (v := nI 3) hx hb dX5_givesOf_53 (by decide) ?_
          refine nv_sub F (by omega) dX5_givesOf_54 ?_
          exact rt_ip F hr hlk hW (by unfold lgi; first | (rw [‹lst L j = false›]; rfl) | (rw [‹lst L j = true›, if_pos rfl]; unfold gv; have h4 := hk.2.2.2.2.1 j ‹lst L j = true›; have h5 := (hk4 j hj).1; congr 1; first | (rw [if_neg (by omega), if_neg (by omega), if_neg (by omega)]; done) | (rw [if_neg (by omega), if_pos (by omega)]; try omega) | (rw [if_neg (by omega), if_neg (by omega), if_pos (by omega)]; try omega) | (rw [if_pos (by omega)]))) rfl dX5_givesOf_55
        · skip
          refine lv_iconst (v := nI 0) hx hb dX5_givesOf_48 (by decide) ?_
          refine lv_goto (tgt := 55) hx hb dX5_givesOf_49 (by decide) ?_
          exact rt_ip F hr hlk hW (by unfold lgi; first | (rw [‹lst L j = false›]; rfl) | (rw [‹lst L j = true›, if_pos rfl]; unfold gv; have h4 := hk.2.2.2.2.1 j ‹lst L j = true›; have h5 := (hk4 j hj).1; congr 1; first | (rw [if_neg (by omega), if_neg (by omega), if_neg (by omega)]; done) | (rw [if_neg (by omega), if_pos (by omega)]; try omega) | (rw [if_neg (by omega), if_neg (by omega), if_pos (by omega)]; try omega) | (rw [if_pos (by omega)]))) rfl dX5_givesOf_55
    · skip
      refine lv_iconst (v := nI 0) hx hb dX5_givesOf_35 (by decide) ?_
      exact rt_ip F hr hlk hW (by unfold lgi; first | (rw [‹lst L j = false›]; rfl) | (rw [‹lst L j = true›, if_pos rfl]; unfold gv; have h4 := hk.2.2.2.2.1 j ‹lst L j = true›; have h5 := (hk4 j hj).1; congr 1; first | (rw [if_neg (by omega), if_neg (by omega), if_neg (by omega)]; done) | (rw [if_neg (by omega), if_pos (by omega)]; try omega) | (rw [if_neg (by omega), if_neg (by omega), if_pos (by omega)]; try omega) | (rw [if_pos (by omega)]))) rfl dX5_givesOf_36

set_option maxHeartbeats 4000000 in
set_option maxRecDepth 100000 in
theorem m_groundOf {cx : CX} (hI : xI cx) (l : Launch) {μ : ME} {lvl : Nat} {L : LN} {B : Nat} (hN : 149 ≤ xN cx) (hV : mdV cx μ lvl L) (hk : lok L B) (hlv : lvl ≤ 1) (hB : B < 900000000) (j : Nat) (hj : j < Ln L) : MT cx l yX5_groundOf cX5_groundOf 3 (some .int) 2 47 [.ref (xa cx 136), .int (nI lvl), .int (nI j)] μ (Pi cx μ (nI (lgr L j))) := by
  refine mt_of hI (by decide) (Nat.le_of_ble_eq_true rfl) ?_
  intro p e s m below meth c ls F hr hlk hW hl
  have hx := F.1.1
  have hb := F.1.2.1
  have hts := F.1.2.2.2.2
  obtain ⟨rh, tn, ac, nx, se, sx, f1, fn, fo, fa, g136, g137, g138, g141, g142, hg, hv⟩ := id hV
  have hn6 := hk.1
  have hk4 := hk.2.2.2.1
  have hU := lok_U hk
  have hl : lv_has ls 3 [(0, .ref (xa cx 136)), (1, .int (nI lvl)), (2, .int (nI j))] := hl
  refine lv_aload_n hx hb dX5_groundOf_0 rfl (lv_at hl 0 rfl) ?_
  refine lv_iload_n hx hb dX5_groundOf_1 rfl (lv_at hl 1 rfl) ?_
  refine lv_bipush (v := nI 18) hx hb dX5_groundOf_2 (by decide) ?_
  refine lv_iload_n hx hb dX5_groundOf_4 rfl (lv_at hl 2 rfl) ?_
  refine cl_ip (cl_run (rest := []) F hW e_X5_80 (m_at18 hI l hN hV hk hlv hB j (by omega)) ⟨Nat.le_of_ble_eq_true rfl, Nat.le_of_ble_eq_true rfl⟩ (by omega) g136 rfl rfl rfl hl (Nat.le_of_ble_eq_true rfl) dX5_groundOf_5 ⟨Nat.zero_le _, Nat.zero_le _⟩) hW (fun H locs hW => ?_)
  refine nv_bne (tgt := 15) F dX5_groundOf_8 (by decide) (fun c_1 => ?_) (fun c_1 => ?_)
  · skip
    refine lv_aload_n hx hb dX5_groundOf_15 rfl (lv_at hl 0 rfl) ?_
    refine lv_iload_n hx hb dX5_groundOf_16 rfl (lv_at hl 1 rfl) ?_
    refine lv_bipush (v := nI 24) hx hb dX5_groundOf_17 (by decide) ?_
    refine lv_iload_n hx hb dX5_groundOf_19 rfl (lv_at hl 2 rfl) ?_
    refine cl_ip (cl_run (rest := []) F hW e_X5_80 (m_at24 hI l hN hV hk hlv hB j (by omega)) ⟨Nat.le_of_ble_eq_true rfl, Nat.le_of_ble_eq_true rfl⟩ (by omega) g136 rfl rfl rfl hl (Nat.le_of_ble_eq_true rfl) dX5_groundOf_20 ⟨Nat.zero_le _, Nat.zero_le _⟩) hW (fun H locs hW => ?_)
    refine lv_aload_n hx hb dX5_groundOf_23 rfl (lv_at hl 0 rfl) ?_
    refine lv_iload_n hx hb dX5_groundOf_24 rfl (lv_at hl 1 rfl) ?_
    refine lv_iload_n hx hb dX5_groundOf_25 rfl (lv_at hl 2 rfl) ?_
    refine cl_ip (cl_run (rest := [.int (nI (Ll L j))]) F hW e_X5_84 (m_givesOf hI l hN hV hk hlv hB j (by omega)) ⟨Nat.le_of_ble_eq_true rfl, Nat.le_of_ble_eq_true rfl⟩ (by omega) g136 rfl rfl rfl hl (Nat.le_of_ble_eq_true rfl) dX5_groundOf_26 ⟨Nat.zero_le _, Nat.zero_le _⟩) hW (fun H locs hW => ?_)
    refine nv_sub F (lgi_le L j) dX5_groundOf_29 ?_
    exact rt_ip F hr hlk hW (by rw [lgr_eq hk]; try (rw [hk.2.2.2.2.2.1 j ‹lst L j = false›]; simp)) rfl dX5_groundOf_30
  · skip
    refine lv_iconst (v := nI 0) hx hb dX5_groundOf_11 (by decide) ?_
    refine lv_goto (tgt := 30) hx hb dX5_groundOf_12 (by decide) ?_
    exact rt_ip F hr hlk hW (by rw [lgr_eq hk]; try (rw [hk.2.2.2.2.2.1 j ‹lst L j = false›]; simp)) rfl dX5_groundOf_30

def lnI (d j : Nat) : Int32 := if d = 0 then nI j - nI 1 else if d = 1 then nI (j + 1) else -9

set_option maxHeartbeats 4000000 in
set_option maxRecDepth 100000 in
theorem m_leansOn {cx : CX} (hI : xI cx) (l : Launch) {μ : ME} {lvl : Nat} {L : LN} {B : Nat} (hN : 149 ≤ xN cx) (hV : mdV cx μ lvl L) (hk : lok L B) (hlv : lvl ≤ 1) (hB : B < 900000000) (j : Nat) (hj : j < Ln L) : MT cx l yX5_leansOn cX5_leansOn 4 (some .int) 1 23 [.ref (xa cx 136), .int (nI lvl), .int (nI j)] μ (Pi cx μ (lnI (Ld L j) j)) := by
  refine mt_of hI (by decide) (Nat.le_of_ble_eq_true rfl) ?_
  intro p e s m below meth c ls F hr hlk hW hl
  have hx := F.1.1
  have hb := F.1.2.1
  have hts := F.1.2.2.2.2
  obtain ⟨rh, tn, ac, nx, se, sx, f1, fn, fo, fa, g136, g137, g138, g141, g142, hg, hv⟩ := id hV
  have hn6 := hk.1
  have hk4 := hk.2.2.2.1
  have hU := lok_U hk
  have hl : lv_has ls 4 [(0, .ref (xa cx 136)), (1, .int (nI lvl)), (2, .int (nI j))] := hl
  refine lv_aload_n hx hb dX5_leansOn_0 rfl (lv_at hl 0 rfl) ?_
  refine lv_iload_n hx hb dX5_leansOn_1 rfl (lv_at hl 1 rfl) ?_
  refine lv_bipush (v := nI 12) hx hb dX5_leansOn_2 (by decide) ?_
  refine lv_iload_n hx hb dX5_leansOn_4 rfl (lv_at hl 2 rfl) ?_
  refine cl_ip (cl_run (rest := []) F hW e_X5_80 (m_at12 hI l hN hV hk hlv hB j (by omega)) ⟨Nat.le_of_ble_eq_true rfl, Nat.le_of_ble_eq_true rfl⟩ (by omega) g136 rfl rfl rfl hl (Nat.le_of_ble_eq_true rfl) dX5_leansOn_5 ⟨Nat.zero_le _, Nat.zero_le _⟩) hW (fun H locs hW => ?_)
  refine lv_istore_n (lv' := [(3, .int (nI (Ld L j))), (0, .ref (xa cx 136)), (1, .int (nI lvl)), (2, .int (nI j))]) hx hb dX5_leansOn_8 rfl hl (by decide) rfl (fun ls hl => ?_)
  refine lv_iload_n hx hb dX5_leansOn_9 rfl (lv_at hl 0 rfl) ?_
  refine nv_zne (tgt := 19) F (by have := (hk4 j hj).2.2.2; omega) dX5_leansOn_10 (by decide) (fun c_1 => ?_) (fun c_1 => ?_)
  · skip
    refine lv_iload_n hx hb dX5_leansOn_19 rfl (lv_at hl 0 rfl) ?_
    refine lv_iconst (v := nI 1) hx hb dX5_leansOn_20 (by decide) ?_
    refine nv_cne (tgt := 30) F (by have := (hk4 j hj).2.2.2; omega) (by omega) dX5_leansOn_21 (by decide) (fun c_2 => ?_) (fun c_2 => ?_)
    · skip
      refine lv_bipush (v := (-9)) hx hb dX5_leansOn_30 (by decide) ?_
      exact rt_ip F hr hlk hW (by unfold lnI; first | (rw [if_pos (by omega)]; done) | (rw [if_neg (by omega), if_pos (by omega)]; done) | (rw [if_neg (by omega), if_neg (by omega)]; done)) rfl dX5_leansOn_32
    · skip
      refine lv_iload_n hx hb dX5_leansOn_24 rfl (lv_at hl 3 rfl) ?_
      refine lv_iconst (v := nI 1) hx hb dX5_leansOn_25 (by decide) ?_
      refine nv_add F dX5_leansOn_26 ?_
      refine lv_goto (tgt := 32) hx hb dX5_leansOn_27 (by decide) ?_
      exact rt_ip F hr hlk hW (by unfold lnI; first | (rw [if_pos (by omega)]; done) | (rw [if_neg (by omega), if_pos (by omega)]; done) | (rw [if_neg (by omega), if_neg (by omega)]; done)) rfl dX5_leansOn_32
  · skip
    refine lv_iload_n hx hb dX5_leansOn_13 rfl (lv_at hl 3 rfl) ?_
    refine lv_iconst (v := nI 1) hx hb dX5_leansOn_14 (by decide) ?_
    refine lv_isub hx hb dX5_leansOn_15 ?_
    refine lv_goto (tgt := 32) hx hb dX5_leansOn_16 (by decide) ?_
    exact rt_ip F hr hlk hW (by unfold lnI; first | (rw [if_pos (by omega)]; done) | (rw [if_neg (by omega), if_pos (by omega)]; done) | (rw [if_neg (by omega), if_neg (by omega)]; done)) rfl dX5_leansOn_32

theorem inR_m9 (n : Nat) : inR (-9) n = false := by
  apply decide_eq_false
  have : (-9 : Int32).toInt = -9 := by decide
  omega
theorem ln_st {L : LN} {j : Nat} (hj : j < 2147483646) : lstI L (lnI (Ld L j) j) = lsst L j := by
  unfold lnI lsst
  split
  · by_cases h0 : j = 0
    · subst h0
      rw [sup_0]
      unfold lstI
      rw [inR_m1]
      rfl
    · rw [pk_sub (by omega), lstI_nI (by omega), decide_eq_true (by omega)]
      simp
  · split
    · exact lstI_nI (by omega)
    · unfold lstI
      rw [inR_m9]
      rfl
theorem lstI_f {L : LN} {x : Int32} (h : inR x (Ln L) = false) : lstI L x = false := by
  unfold lstI
  rw [h]
  rfl

set_option maxHeartbeats 4000000 in
set_option maxRecDepth 100000 in
theorem m_isHeld {cx : CX} (hI : xI cx) (l : Launch) {μ : ME} {lvl : Nat} {L : LN} {B : Nat} (hN : 149 ≤ xN cx) (hV : mdV cx μ lvl L) (hk : lok L B) (hlv : lvl ≤ 1) (hB : B < 900000000) (j : Nat) (hj : j < Ln L) : MT cx l yX5_isHeld cX5_isHeld 4 (some .boolean) 2 46 [.ref (xa cx 136), .int (nI lvl), .int (nI j)] μ (Pi cx μ (b2 (decide (Ld L j = 2) || lsst L j))) := by
  refine mt_of hI (by decide) (Nat.le_of_ble_eq_true rfl) ?_
  intro p e s m below meth c ls F hr hlk hW hl
  have hx := F.1.1
  have hb := F.1.2.1
  have hts := F.1.2.2.2.2
  obtain ⟨rh, tn, ac, nx, se, sx, f1, fn, fo, fa, g136, g137, g138, g141, g142, hg, hv⟩ := id hV
  have hn6 := hk.1
  have hk4 := hk.2.2.2.1
  have hU := lok_U hk
  have hl : lv_has ls 4 [(0, .ref (xa cx 136)), (1, .int (nI lvl)), (2, .int (nI j))] := hl
  refine lv_aload_n hx hb dX5_isHeld_0 rfl (lv_at hl 0 rfl) ?_
  refine lv_iload_n hx hb dX5_isHeld_1 rfl (lv_at hl 1 rfl) ?_
  refine lv_bipush (v := nI 12) hx hb dX5_isHeld_2 (by decide) ?_
  refine lv_iload_n hx hb dX5_isHeld_4 rfl (lv_at hl 2 rfl) ?_
  refine cl_ip (cl_run (rest := []) F hW e_X5_80 (m_at12 hI l hN hV hk hlv hB j (by omega)) ⟨Nat.le_of_ble_eq_true rfl, Nat.le_of_ble_eq_true rfl⟩ (by omega) g136 rfl rfl rfl hl (Nat.le_of_ble_eq_true rfl) dX5_isHeld_5 ⟨Nat.zero_le _, Nat.zero_le _⟩) hW (fun H locs hW => ?_)
  refine lv_iconst (v := nI 2) hx hb dX5_isHeld_8 (by decide) ?_
  refine nv_cne (tgt := 14) F (by have := (hk4 j hj).2.2.2; omega) (by omega) dX5_isHeld_9 (by decide) (fun c_1 => ?_) (fun c_1 => ?_)
  · skip
    refine lv_aload_n hx hb dX5_isHeld_14 rfl (lv_at hl 0 rfl) ?_
    refine lv_iload_n hx hb dX5_isHeld_15 rfl (lv_at hl 1 rfl) ?_
    refine lv_iload_n hx hb dX5_isHeld_16 rfl (lv_at hl 2 rfl) ?_
    refine cl_ip (cl_run (rest := []) F hW e_X5_88 (m_leansOn hI l hN hV hk hlv hB j (by omega)) ⟨Nat.le_of_ble_eq_true rfl, Nat.le_of_ble_eq_true rfl⟩ (by omega) g136 rfl rfl rfl hl (Nat.le_of_ble_eq_true rfl) dX5_isHeld_17 ⟨Nat.zero_le _, Nat.zero_le _⟩) hW (fun H locs hW => ?_)
    refine lv_topi (fun x3 ex3 => ?_)
    refine lv_istore_n (lv' := [(3, .int x3), (0, .ref (xa cx 136)), (1, .int (nI lvl)), (2, .int (nI j))]) hx hb dX5_isHeld_20 rfl hl (by decide) rfl (fun ls hl => ?_)
    refine lv_aload_n hx hb dX5_isHeld_21 rfl (lv_at hl 1 rfl) ?_
    refine lv_iload_n hx hb dX5_isHeld_22 rfl (lv_at hl 0 rfl) ?_
    refine cl_ip (cl_run (rest := []) F hW e_X5_91 (m_isHouse hI l hN hV hk hlv hB x3) ⟨Nat.le_of_ble_eq_true rfl, Nat.le_of_ble_eq_true rfl⟩ (by omega) g136 rfl rfl rfl hl (Nat.le_of_ble_eq_true rfl) dX5_isHeld_23 ⟨Nat.zero_le _, Nat.zero_le _⟩) hW (fun H locs hW => ?_)
    refine nv_beq (tgt := 45) F dX5_isHeld_26 (by decide) (fun c_2 => ?_) (fun c_2 => ?_)
    · skip
      refine lv_iconst (v := nI 0) hx hb dX5_isHeld_45 (by decide) ?_
      exact rt_zp F hr hlk hW (by first | (rw [decide_eq_true (show Ld L j = 2 by omega)]; rfl) | (rw [decide_eq_false (show ¬ Ld L j = 2 by omega), Bool.false_or, ← ln_st (show j < 2147483646 by omega), ← ex3]; first | (rw [lstI_f (by assumption)]; rfl) | (rw [lstI_nI (by omega), ‹lst L t0 = _›]; rfl))) rfl dX5_isHeld_46
    · skip
      obtain ⟨t0, ht0, rfl⟩ := inR_of c_2 (by omega)
      refine lv_aload_n hx hb dX5_isHeld_29 rfl (lv_at hl 1 rfl) ?_
      refine lv_iload_n hx hb dX5_isHeld_30 rfl (lv_at hl 2 rfl) ?_
      refine lv_bipush (v := nI 18) hx hb dX5_isHeld_31 (by decide) ?_
      refine lv_iload_n hx hb dX5_isHeld_33 rfl (lv_at hl 0 rfl) ?_
      refine cl_ip (cl_run (rest := []) F hW e_X5_80 (m_at18 hI l hN hV hk hlv hB t0 (by omega)) ⟨Nat.le_of_ble_eq_true rfl, Nat.le_of_ble_eq_true rfl⟩ (by omega) g136 rfl rfl rfl hl (Nat.le_of_ble_eq_true rfl) dX5_isHeld_34 ⟨Nat.zero_le _, Nat.zero_le _⟩) hW (fun H locs hW => ?_)
      refine lv_iconst (v := nI 1) hx hb dX5_isHeld_37 (by decide) ?_
      refine nv_b1ne (tgt := 45) F dX5_isHeld_38 (by decide) (fun c_3 => ?_) (fun c_3 => ?_)
      · skip
        refine lv_iconst (v := nI 0) hx hb dX5_isHeld_45 (by decide) ?_
        exact rt_zp F hr hlk hW (by first | (rw [decide_eq_true (show Ld L j = 2 by omega)]; rfl) | (rw [decide_eq_false (show ¬ Ld L j = 2 by omega), Bool.false_or, ← ln_st (show j < 2147483646 by omega), ← ex3]; first | (rw [lstI_f (by assumption)]; rfl) | (rw [lstI_nI (by omega), ‹lst L t0 = _›]; rfl))) rfl dX5_isHeld_46
      · skip
        refine lv_iconst (v := nI 1) hx hb dX5_isHeld_41 (by decide) ?_
        refine lv_goto (tgt := 46) hx hb dX5_isHeld_42 (by decide) ?_
        exact rt_zp F hr hlk hW (by first | (rw [decide_eq_true (show Ld L j = 2 by omega)]; rfl) | (rw [decide_eq_false (show ¬ Ld L j = 2 by omega), Bool.false_or, ← ln_st (show j < 2147483646 by omega), ← ex3]; first | (rw [lstI_f (by assumption)]; rfl) | (rw [lstI_nI (by omega), ‹lst L t0 = _›]; rfl))) rfl dX5_isHeld_46
  · skip
    refine lv_iconst (v := nI 1) hx hb dX5_isHeld_12 (by decide) ?_
    exact rt_zp F hr hlk hW (by first | (rw [decide_eq_true (show Ld L j = 2 by omega)]; rfl) | (rw [decide_eq_false (show ¬ Ld L j = 2 by omega), Bool.false_or, ← ln_st (show j < 2147483646 by omega), ← ex3]; first | (rw [lstI_f (by assumption)]; rfl) | (rw [lstI_nI (by omega), ‹lst L t0 = _›]; rfl))) rfl dX5_isHeld_13

theorem bits_lst {L : LN} {B : Nat} (hk : lok L B) : bitsOf (lst L) (Ln L) = LU L := by
  apply Nat.eq_of_testBit_eq
  intro i
  rw [testBit_bitsOf]
  unfold lst
  by_cases h : i < Ln L
  · rw [decide_eq_true h]
    simp
  · rw [decide_eq_false h, Nat.testBit_lt_two_pow (Nat.lt_of_lt_of_le hk.2.1 (Nat.pow_le_pow_right (by decide) (by omega)))]
    rfl

set_option maxHeartbeats 4000000 in
set_option maxRecDepth 100000 in
theorem m_standingOn {cx : CX} (hI : xI cx) (l : Launch) {μ : ME} {lvl : Nat} {L : LN} {B : Nat} (hN : 149 ≤ xN cx) (hV : mdV cx μ lvl L) (hk : lok L B) (hlv : lvl ≤ 1) (hB : B < 900000000) : MT cx l yX5_standingOn cX5_standingOn 4 (some .int) 1 23 [.ref (xa cx 136), .int (nI lvl)] μ (Pi cx μ (nI (LU L))) := by
  refine mt_of hI (by decide) (Nat.le_of_ble_eq_true rfl) ?_
  intro p e s m below meth c ls F hr hlk hW hl
  have hx := F.1.1
  have hb := F.1.2.1
  have hts := F.1.2.2.2.2
  obtain ⟨rh, tn, ac, nx, se, sx, f1, fn, fo, fa, g136, g137, g138, g141, g142, hg, hv⟩ := id hV
  have hn6 := hk.1
  have hk4 := hk.2.2.2.1
  have hU := lok_U hk
  have hl : lv_has ls 4 [(0, .ref (xa cx 136)), (1, .int (nI lvl))] := hl
  refine lv_iconst (v := nI 0) hx hb dX5_standingOn_0 (by decide) ?_
  refine lv_istore_n (lv' := [(2, .int (nI 0)), (0, .ref (xa cx 136)), (1, .int (nI lvl))]) hx hb dX5_standingOn_1 rfl hl (by decide) rfl (fun ls hl => ?_)
  refine lv_iconst (v := nI 0) hx hb dX5_standingOn_2 (by decide) ?_
  refine lv_istore_n (lv' := [(3, .int (nI 0)), (2, .int (nI 0)), (0, .ref (xa cx 136)), (1, .int (nI lvl))]) hx hb dX5_standingOn_3 rfl hl (by decide) rfl (fun ls hl => ?_)
  have LOOP : ∀ (d i : Nat)  (H : Heap) (locs : List Loc) (ls : Array Slot), i + d = Ln L → St cx s μ H locs → lv_has ls 4 [(0, .ref (xa cx 136)), (1, .int (nI lvl)), (2, .int (nI (bitsOf (lst L) i))), (3, .int (nI i))] → W p l e { frames := 1, cells := 0, slots := 0, locals := 23 } s m [.ref (xa cx 136), .int (nI lvl)].toArray below meth c H locs 0 0 (MQ below (Pi cx μ (nI (LU L))) [.ref (xa cx 136), .int (nI lvl)].toArray s 0 0 (xA cx)) (F0 m 4 ls []) := by
    intro d
    induction d with
    | zero =>
      intro i   H locs ls hid  hW hl
      refine lv_iload_n hx hb dX5_standingOn_4 rfl (lv_at hl 3 rfl) ?_
      refine lv_aload_n hx hb dX5_standingOn_5 rfl (lv_at hl 0 rfl) ?_
      refine nv_get F hW (by omega) g136 rfl iX5 0 (by decide) tw_629 rfl dX5_standingOn_6 ?_
      refine nv_cge (tgt := 31) F (by omega) (by omega) dX5_standingOn_9 (by decide) (fun c_1 => ?_) (fun c_1 => ?_)
      · skip
        refine lv_iload_n hx hb dX5_standingOn_31 rfl (lv_at hl 2 rfl) ?_
        exact rt_ip F hr hlk hW (by rw [show i = Ln L by omega, bits_lst hk]) rfl dX5_standingOn_32
      · skip
        exact absurd c_1 (by omega)
    | succ d ih =>
      intro i   H locs ls hid  hW hl
      refine lv_iload_n hx hb dX5_standingOn_4 rfl (lv_at hl 3 rfl) ?_
      refine lv_aload_n hx hb dX5_standingOn_5 rfl (lv_at hl 0 rfl) ?_
      refine nv_get F hW (by omega) g136 rfl iX5 0 (by decide) tw_629 rfl dX5_standingOn_6 ?_
      refine nv_cge (tgt := 31) F (by omega) (by omega) dX5_standingOn_9 (by decide) (fun c_2 => ?_) (fun c_2 => ?_)
      · skip
        exact absurd c_2 (by omega)
      · skip
        refine lv_iload_n hx hb dX5_standingOn_12 rfl (lv_at hl 2 rfl) ?_
        refine lv_aload_n hx hb dX5_standingOn_13 rfl (lv_at hl 0 rfl) ?_
        refine lv_iload_n hx hb dX5_standingOn_14 rfl (lv_at hl 1 rfl) ?_
        refine lv_bipush (v := nI 18) hx hb dX5_standingOn_15 (by decide) ?_
        refine lv_iload_n hx hb dX5_standingOn_17 rfl (lv_at hl 3 rfl) ?_
        refine cl_ip (cl_run (rest := [.int (nI (bitsOf (lst L) i))]) F hW e_X5_80 (m_at18 hI l hN hV hk hlv hB i (by omega)) ⟨Nat.le_of_ble_eq_true rfl, Nat.le_of_ble_eq_true rfl⟩ (by omega) g136 rfl rfl rfl hl (Nat.le_of_ble_eq_true rfl) dX5_standingOn_18 ⟨Nat.zero_le _, Nat.zero_le _⟩) hW (fun H locs hW => ?_)
        refine nv_top (y := ((nI (if lst L i then 1 else 0)))) (b2_n _) ?_
        refine lv_iload_n hx hb dX5_standingOn_21 rfl (lv_at hl 3 rfl) ?_
        refine nv_shl F (by omega) (by have := pow2_6 (show i < 6 by omega); split <;> omega) dX5_standingOn_22 ?_
        refine nv_top (y := ((nI (if lst L i then 2 ^ i else 0)))) (by congr 1; split <;> simp) ?_
        refine nv_or F dX5_standingOn_23 ?_
        refine lv_istore_n (lv' := [(2, .int (nI ((bitsOf (lst L) i) ||| (if lst L i then 2 ^ i else 0)))), (0, .ref (xa cx 136)), (1, .int (nI lvl)), (3, .int (nI i))]) hx hb dX5_standingOn_24 rfl hl (by decide) rfl (fun ls hl => ?_)
        refine lv_iinc (v := ((nI (i + 1)))) (lv' := [(3, .int (nI (i + 1))), (2, .int (nI ((bitsOf (lst L) i) ||| (if lst L i then 2 ^ i else 0)))), (0, .ref (xa cx 136)), (1, .int (nI lvl))]) hx hb dX5_standingOn_25 hl (k := 3) rfl (nI_add _ _) (by decide) rfl (fun ls hl => ?_)
        refine lv_goto (tgt := 4) hx hb dX5_standingOn_28 (by decide) ?_
        exact ih (i + 1) _ _ _ (by omega) hW (lv_sub hl [2, 3, 1, 0] rfl)
  exact LOOP (Ln L) 0 _ _ _ (by omega) hW (lv_sub hl [2, 3, 1, 0] rfl)

set_option maxHeartbeats 4000000 in
set_option maxRecDepth 100000 in
theorem m_canBring {cx : CX} (hI : xI cx) (l : Launch) {μ : ME} {lvl : Nat} {L : LN} {B : Nat} (hN : 149 ≤ xN cx) (hV : mdV cx μ lvl L) (hk : lok L B) (hlv : lvl ≤ 1) (hB : B < 900000000) (j v : Nat) (hjj : j < 2147483648) (hvv : v < 2147483648) : MT cx l yX5_canBring cX5_canBring 4 (some .boolean) 2 46 [.ref (xa cx 136), .int (nI lvl), .int (nI j), .int (nI v)] μ (Pi cx μ (b2 (canA L j v))) := by
  refine mt_of hI (by decide) (Nat.le_of_ble_eq_true rfl) ?_
  intro p e s m below meth c ls F hr hlk hW hl
  have hx := F.1.1
  have hb := F.1.2.1
  have hts := F.1.2.2.2.2
  obtain ⟨rh, tn, ac, nx, se, sx, f1, fn, fo, fa, g136, g137, g138, g141, g142, hg, hv⟩ := id hV
  have hn6 := hk.1
  have hk4 := hk.2.2.2.1
  have hU := lok_U hk
  have hl : lv_has ls 4 [(0, .ref (xa cx 136)), (1, .int (nI lvl)), (2, .int (nI j)), (3, .int (nI v))] := hl
  refine lv_aload_n hx hb dX5_canBring_0 rfl (lv_at hl 0 rfl) ?_
  refine lv_iload_n hx hb dX5_canBring_1 rfl (lv_at hl 2 rfl) ?_
  refine cl_ip (cl_run (rest := []) F hW e_X5_91 (m_isHouseN hI l hN hV hk hlv hB j (by omega)) ⟨Nat.le_of_ble_eq_true rfl, Nat.le_of_ble_eq_true rfl⟩ (by omega) g136 rfl rfl rfl hl (Nat.le_of_ble_eq_true rfl) dX5_canBring_2 ⟨Nat.zero_le _, Nat.zero_le _⟩) hW (fun H locs hW => ?_)
  refine nv_beq (tgt := 39) F dX5_canBring_5 (by decide) (fun c_1 => ?_) (fun c_1 => ?_)
  · skip
    refine lv_iconst (v := nI 0) hx hb dX5_canBring_39 (by decide) ?_
    exact rt_zp F hr hlk hW (b2_f (fun q => by first | exact (of_decide_eq_false ‹decide (j < Ln L) = false›) q.1 | exact (of_decide_eq_false ‹decide (1 ≤ v ∧ v ≤ 9) = false›) q.2.1 | omega)) rfl dX5_canBring_40
  · skip
    have hj := of_decide_eq_true c_1
    refine lv_iload_n hx hb dX5_canBring_8 rfl (lv_at hl 3 rfl) ?_
    refine lv_i2l (v := lN v) hx hb dX5_canBring_9 (nI_l (by omega)) ?_
    refine lv_lconst (v := lN 1) hx hb dX5_canBring_10 (by decide) ?_
    refine lv_ldc2 (v := lN 9) hx hb F.1.2.2.2.1 (hts _ tw_768) dX5_canBring_11 ?_
    refine cl_ip (cl_runS (rest := []) F hW e_X5_49 (m_in hI l ((lN v)) ((lN 1)) ((lN 9))) ⟨Nat.le_of_ble_eq_true rfl, Nat.le_of_ble_eq_true rfl⟩ rfl rfl hl (Nat.le_of_ble_eq_true rfl) dX5_canBring_14 ⟨Nat.zero_le _, Nat.zero_le _⟩) hW (fun H locs hW => ?_)
    refine nv_top (y := ((b2 (decide (1 ≤ v ∧ v ≤ 9))))) (congrArg b2 (inL_N (by omega) (by omega) (by omega))) ?_
    refine nv_beq (tgt := 39) F dX5_canBring_17 (by decide) (fun c_2 => ?_) (fun c_2 => ?_)
    · skip
      refine lv_iconst (v := nI 0) hx hb dX5_canBring_39 (by decide) ?_
      exact rt_zp F hr hlk hW (b2_f (fun q => by first | exact (of_decide_eq_false ‹decide (j < Ln L) = false›) q.1 | exact (of_decide_eq_false ‹decide (1 ≤ v ∧ v ≤ 9) = false›) q.2.1 | omega)) rfl dX5_canBring_40
    · skip
      have hv19 := of_decide_eq_true c_2
      refine lv_aload_n hx hb dX5_canBring_20 rfl (lv_at hl 0 rfl) ?_
      refine lv_iload_n hx hb dX5_canBring_21 rfl (lv_at hl 1 rfl) ?_
      refine lv_bipush (v := nI 6) hx hb dX5_canBring_22 (by decide) ?_
      refine lv_iload_n hx hb dX5_canBring_24 rfl (lv_at hl 2 rfl) ?_
      refine cl_ip (cl_run (rest := []) F hW e_X5_80 (m_at6 hI l hN hV hk hlv hB j (by omega)) ⟨Nat.le_of_ble_eq_true rfl, Nat.le_of_ble_eq_true rfl⟩ (by omega) g136 rfl rfl rfl hl (Nat.le_of_ble_eq_true rfl) dX5_canBring_25 ⟨Nat.zero_le _, Nat.zero_le _⟩) hW (fun H locs hW => ?_)
      refine lv_iload_n hx hb dX5_canBring_28 rfl (lv_at hl 3 rfl) ?_
      refine nv_add F dX5_canBring_29 ?_
      refine lv_bipush (v := nI 99) hx hb dX5_canBring_30 (by decide) ?_
      refine nv_cgt (tgt := 39) F (by have := (hk4 j hj).2.1; omega) (by omega) dX5_canBring_32 (by decide) (fun c_3 => ?_) (fun c_3 => ?_)
      · skip
        refine lv_iconst (v := nI 0) hx hb dX5_canBring_39 (by decide) ?_
        exact rt_zp F hr hlk hW (b2_f (fun q => by first | exact (of_decide_eq_false ‹decide (j < Ln L) = false›) q.1 | exact (of_decide_eq_false ‹decide (1 ≤ v ∧ v ≤ 9) = false›) q.2.1 | omega)) rfl dX5_canBring_40
      · skip
        refine lv_iconst (v := nI 1) hx hb dX5_canBring_35 (by decide) ?_
        refine lv_goto (tgt := 40) hx hb dX5_canBring_36 (by decide) ?_
        exact rt_zp F hr hlk hW (b2_t ⟨hj, hv19, by omega⟩) rfl dX5_canBring_40

set_option maxHeartbeats 4000000 in
set_option maxRecDepth 100000 in
theorem m_canTake {cx : CX} (hI : xI cx) (l : Launch) {μ : ME} {lvl : Nat} {L : LN} {B : Nat} (hN : 149 ≤ xN cx) (hV : mdV cx μ lvl L) (hk : lok L B) (hlv : lvl ≤ 1) (hB : B < 900000000) (j v : Nat) (hjj : j < 2147483648) (hvv : v < 2147483648) : MT cx l yX5_canTake cX5_canTake 4 (some .boolean) 2 46 [.ref (xa cx 136), .int (nI lvl), .int (nI j), .int (nI v)] μ (Pi cx μ (b2 (canS L j v))) := by
  refine mt_of hI (by decide) (Nat.le_of_ble_eq_true rfl) ?_
  intro p e s m below meth c ls F hr hlk hW hl
  have hx := F.1.1
  have hb := F.1.2.1
  have hts := F.1.2.2.2.2
  obtain ⟨rh, tn, ac, nx, se, sx, f1, fn, fo, fa, g136, g137, g138, g141, g142, hg, hv⟩ := id hV
  have hn6 := hk.1
  have hk4 := hk.2.2.2.1
  have hU := lok_U hk
  have hl : lv_has ls 4 [(0, .ref (xa cx 136)), (1, .int (nI lvl)), (2, .int (nI j)), (3, .int (nI v))] := hl
  refine lv_aload_n hx hb dX5_canTake_0 rfl (lv_at hl 0 rfl) ?_
  refine lv_iload_n hx hb dX5_canTake_1 rfl (lv_at hl 2 rfl) ?_
  refine cl_ip (cl_run (rest := []) F hW e_X5_91 (m_isHouseN hI l hN hV hk hlv hB j (by omega)) ⟨Nat.le_of_ble_eq_true rfl, Nat.le_of_ble_eq_true rfl⟩ (by omega) g136 rfl rfl rfl hl (Nat.le_of_ble_eq_true rfl) dX5_canTake_2 ⟨Nat.zero_le _, Nat.zero_le _⟩) hW (fun H locs hW => ?_)
  refine nv_beq (tgt := 36) F dX5_canTake_5 (by decide) (fun c_1 => ?_) (fun c_1 => ?_)
  · skip
    refine lv_iconst (v := nI 0) hx hb dX5_canTake_36 (by decide) ?_
    exact rt_zp F hr hlk hW (b2_f (fun q => by first | exact (of_decide_eq_false ‹decide (j < Ln L) = false›) q.1 | exact (of_decide_eq_false ‹decide (1 ≤ v ∧ v ≤ 9) = false›) q.2.1 | omega)) rfl dX5_canTake_37
  · skip
    have hj := of_decide_eq_true c_1
    refine lv_iload_n hx hb dX5_canTake_8 rfl (lv_at hl 3 rfl) ?_
    refine lv_i2l (v := lN v) hx hb dX5_canTake_9 (nI_l (by omega)) ?_
    refine lv_lconst (v := lN 1) hx hb dX5_canTake_10 (by decide) ?_
    refine lv_ldc2 (v := lN 9) hx hb F.1.2.2.2.1 (hts _ tw_768) dX5_canTake_11 ?_
    refine cl_ip (cl_runS (rest := []) F hW e_X5_49 (m_in hI l ((lN v)) ((lN 1)) ((lN 9))) ⟨Nat.le_of_ble_eq_true rfl, Nat.le_of_ble_eq_true rfl⟩ rfl rfl hl (Nat.le_of_ble_eq_true rfl) dX5_canTake_14 ⟨Nat.zero_le _, Nat.zero_le _⟩) hW (fun H locs hW => ?_)
    refine nv_top (y := ((b2 (decide (1 ≤ v ∧ v ≤ 9))))) (congrArg b2 (inL_N (by omega) (by omega) (by omega))) ?_
    refine nv_beq (tgt := 36) F dX5_canTake_17 (by decide) (fun c_2 => ?_) (fun c_2 => ?_)
    · skip
      refine lv_iconst (v := nI 0) hx hb dX5_canTake_36 (by decide) ?_
      exact rt_zp F hr hlk hW (b2_f (fun q => by first | exact (of_decide_eq_false ‹decide (j < Ln L) = false›) q.1 | exact (of_decide_eq_false ‹decide (1 ≤ v ∧ v ≤ 9) = false›) q.2.1 | omega)) rfl dX5_canTake_37
    · skip
      have hv19 := of_decide_eq_true c_2
      refine lv_aload_n hx hb dX5_canTake_20 rfl (lv_at hl 0 rfl) ?_
      refine lv_iload_n hx hb dX5_canTake_21 rfl (lv_at hl 1 rfl) ?_
      refine lv_bipush (v := nI 6) hx hb dX5_canTake_22 (by decide) ?_
      refine lv_iload_n hx hb dX5_canTake_24 rfl (lv_at hl 2 rfl) ?_
      refine cl_ip (cl_run (rest := []) F hW e_X5_80 (m_at6 hI l hN hV hk hlv hB j (by omega)) ⟨Nat.le_of_ble_eq_true rfl, Nat.le_of_ble_eq_true rfl⟩ (by omega) g136 rfl rfl rfl hl (Nat.le_of_ble_eq_true rfl) dX5_canTake_25 ⟨Nat.zero_le _, Nat.zero_le _⟩) hW (fun H locs hW => ?_)
      refine lv_iload_n hx hb dX5_canTake_28 rfl (lv_at hl 3 rfl) ?_
      refine nv_clt (tgt := 36) F (by have := (hk4 j hj).2.1; omega) (by omega) dX5_canTake_29 (by decide) (fun c_3 => ?_) (fun c_3 => ?_)
      · skip
        refine lv_iconst (v := nI 0) hx hb dX5_canTake_36 (by decide) ?_
        exact rt_zp F hr hlk hW (b2_f (fun q => by first | exact (of_decide_eq_false ‹decide (j < Ln L) = false›) q.1 | exact (of_decide_eq_false ‹decide (1 ≤ v ∧ v ≤ 9) = false›) q.2.1 | omega)) rfl dX5_canTake_37
      · skip
        refine lv_iconst (v := nI 1) hx hb dX5_canTake_32 (by decide) ?_
        refine lv_goto (tgt := 37) hx hb dX5_canTake_33 (by decide) ?_
        exact rt_zp F hr hlk hW (b2_t ⟨hj, hv19, by omega⟩) rfl dX5_canTake_37
