/-! the whole object: text, its length; the lane; acts; what is seen; slots; the seed -/
abbrev AS : Type := (Nat → Nat) × Nat × LN × (Nat → LN) × Nat × (Nat → Nat) × (Nat → Nat) × (Nat → Nat) × Nat × Nat × (Nat → LN) × Int64
abbrev At (S : AS) : Nat → Nat := S.1
abbrev An (S : AS) : Nat := S.2.1
abbrev AL (S : AS) : LN := S.2.2.1
abbrev AP (S : AS) : Nat → LN := S.2.2.2.1
abbrev Az (S : AS) : Nat := S.2.2.2.2.1
abbrev Ah (S : AS) : Nat → Nat := S.2.2.2.2.2.1
abbrev Ao (S : AS) : Nat → Nat := S.2.2.2.2.2.2.1
abbrev Ab (S : AS) : Nat → Nat := S.2.2.2.2.2.2.2.1
abbrev Ay (S : AS) : Nat := S.2.2.2.2.2.2.2.2.1
abbrev Ak (S : AS) : Nat := S.2.2.2.2.2.2.2.2.2.1
abbrev AK (S : AS) : Nat → LN := S.2.2.2.2.2.2.2.2.2.2.1
abbrev Ad (S : AS) : Int64 := S.2.2.2.2.2.2.2.2.2.2.2
def uT (S : AS) (t : Nat → Nat) (n : Nat) : AS := (t, n, AL S, AP S, Az S, Ah S, Ao S, Ab S, Ay S, Ak S, AK S, Ad S)
def uL (S : AS) (L : LN) (PN : Nat → LN) (z : Nat) : AS := (At S, An S, L, PN, z, Ah S, Ao S, Ab S, Ay S, Ak S, AK S, Ad S)
def uS (S : AS) (h o b : Nat → Nat) (y : Nat) : AS := (At S, An S, AL S, AP S, Az S, h, o, b, y, Ak S, AK S, Ad S)
def uK (S : AS) (k : Nat) (K : Nat → LN) : AS := (At S, An S, AL S, AP S, Az S, Ah S, Ao S, Ab S, Ay S, k, K, Ad S)
def uD (S : AS) (d : Int64) : AS := (At S, An S, AL S, AP S, Az S, Ah S, Ao S, Ab S, Ay S, Ak S, AK S, d)
def slotR (cx : CX) (μ : ME) (k : Nat) (K : Nat → LN) : Prop := (∃ g : Nat → Option Nat, μ 121 = .inl (xT cx 3, 2, .inr (.inr (.inr (.inr g)))) ∧ ∀ j, j < 2 → g j = some (xa cx (122 + 7 * j))) ∧ (∀ j, j < 2 → ∃ L, laneR cx μ (122 + 7 * j) L) ∧ ∀ j, j < 2 → k.testBit j = true → laneR cx μ (122 + 7 * j) (K j)
theorem slotR_off {cx : CX} {μ μ1 : ME} {a m k : Nat} {K : Nat → LN} (h : slotR cx μ k K) (ho : off a m μ μ1) (hd : a + m ≤ 121 ∨ 136 ≤ a) : slotR cx μ1 k K := by
  obtain ⟨⟨g, h1, h2⟩, h3, h4⟩ := h
  refine ⟨⟨g, (ho _ (by omega)).trans h1, h2⟩, fun j hj => ?_, fun j hj hk => laneR_off (h4 j hj hk) ho (by omega)⟩
  obtain ⟨L, hL⟩ := h3 j hj
  exact ⟨L, laneR_off hL ho (by omega)⟩
def mainR (cx : CX) (μ : ME) (S : AS) : Prop := μ 0 = .inr (4, [.ref (xa cx 1), .ref (xa cx 3), .ref (xa cx 10), .ref (xa cx 17), .ref (xa cx 117), .ref (xa cx 121), .int (nI (Ak S)), .long (Ad S)]) ∧ textR cx μ 1 (At S) (An S) ∧ laneR cx μ 3 (AL S) ∧ (∃ LT, laneR cx μ 10 LT) ∧ pastR cx μ 17 (Az S) (AP S) ∧ seenR cx μ 117 (Ah S) (Ao S) (Ab S) (Ay S) ∧ slotR cx μ (Ak S) (AK S)
def aok (S : AS) (B : Nat) : Prop := tok (At S) (An S) ∧ lok (AL S) B ∧ (Az S ≤ 14 ∧ ∀ k, k < Az S → lok (AP S k) B) ∧ sok (Ah S) (Ao S) (Ab S) (Ay S) ∧ Ak S < 4 ∧ (∀ j, j < 2 → (Ak S).testBit j = true → lok (AK S j) B)
theorem mainR_trial {cx : CX} {μ μ1 : ME} {S : AS} (h : mainR cx μ S) (ho : off 10 7 μ μ1) (hL : ∃ L, laneR cx μ1 10 L) : mainR cx μ1 S := by
  obtain ⟨h0, h1, h2, -, h4, h5, h6⟩ := h
  exact ⟨(ho 0 (by omega)).trans h0, textR_off h1 ho (by omega), laneR_off h2 ho (by omega), hL, pastR_off h4 ho (by omega), seenR_off h5 ho (by omega), slotR_off h6 ho (by omega)⟩
theorem off_big {a n : Nat} {μ μ1 : ME} (h : off a n μ μ1) (hn : a + n ≤ 136) : off 0 136 μ μ1 := fun i hi => h i (by omega)
def halI (x : Int32) : Bool := decide (x = nI 0 ∨ x = nI 1)

set_option maxHeartbeats 4000000 in
set_option maxRecDepth 100000 in
theorem c_isHalf {cx : CX} (hI : xI cx) (l : Launch) {μ : ME} (x : Int32) : MT cx l yX4_isHalf cX4_isHalf 1 (some .boolean) 0 0 [.int x] μ (Pi cx μ (b2 (halI x))) := by
  refine mt_of hI (by decide) (Nat.le_of_ble_eq_true rfl) ?_
  intro p e s m below meth c ls F hr hlk hW hl
  have hx := F.1.1
  have hb := F.1.2.1
  have hts := F.1.2.2.2.2
  have hl : lv_has ls 1 [(0, .int x)] := hl
  refine lv_iload_n hx hb dX4_isHalf_0 rfl (lv_at hl 0 rfl) ?_
  refine lv_if_eq (tgt := 9) hx hb dX4_isHalf_1 (by decide) (fun c_1 => ?_) (fun c_1 => ?_)
  · skip
    refine lv_iconst (v := nI 1) hx hb dX4_isHalf_9 (by decide) ?_
    refine lv_goto (tgt := 14) hx hb dX4_isHalf_10 (by decide) ?_
    exact rt_zp F hr hlk hW (b2_t (by first | exact Or.inl (by assumption) | exact Or.inr (by assumption))) rfl dX4_isHalf_14
  · skip
    refine lv_iload_n hx hb dX4_isHalf_4 rfl (lv_at hl 0 rfl) ?_
    refine lv_iconst (v := nI 1) hx hb dX4_isHalf_5 (by decide) ?_
    refine lv_icmp_ne (tgt := 13) hx hb dX4_isHalf_6 (by decide) (fun c_2 => ?_) (fun c_2 => ?_)
    · skip
      refine lv_iconst (v := nI 0) hx hb dX4_isHalf_13 (by decide) ?_
      exact rt_zp F hr hlk hW (b2_f (fun q => by rcases q with q | q <;> contradiction)) rfl dX4_isHalf_14
    · skip
      refine lv_iconst (v := nI 1) hx hb dX4_isHalf_9 (by decide) ?_
      refine lv_goto (tgt := 14) hx hb dX4_isHalf_10 (by decide) ?_
      exact rt_zp F hr hlk hW (b2_t (by first | exact Or.inl (by assumption) | exact Or.inr (by assumption))) rfl dX4_isHalf_14

def r_write (S : AS) (x : Int32) : Int32 := if inR x 256 then (if An S < 64 then nI (An S + 1) else -4) else -2
def s_write (S : AS) (x : Int32) : AS := if inR x 256 && decide (An S < 64) then uT S (va_up (At S) (An S) x.toNatClampNeg) (An S + 1) else S
theorem wr_hi {x : Int32} (c : ¬ x ≤ nI 255) : inR x 256 = false := by
  rw [Int32.le_iff_toInt_le, nI_toInt (by decide)] at c
  apply decide_eq_false
  omega
theorem wr_in {x : Int32} (c : ¬ x < 0) (d : x ≤ nI 255) : inR x 256 = true := by
  rw [Int32.le_iff_toInt_le, nI_toInt (by decide)] at d
  rw [Int32.lt_iff_toInt_lt] at c
  have z : (0 : Int32).toInt = 0 := rfl
  apply decide_eq_true
  omega

theorem tok_up {t : Nat → Nat} {n c : Nat} (h : tok t n) (hc : c ≤ 255) : ∀ i, i < n + 1 → va_up t n c i ≤ 255 := by
  intro i hi
  unfold va_up
  split
  · exact hc
  · exact h.2 i (by omega)

set_option maxHeartbeats 4000000 in
set_option maxRecDepth 100000 in
theorem k_write {cx : CX} (hI : xI cx) (l : Launch) {μ : ME} {S : AS} {B : Nat} (hN : 136 ≤ xN cx) (hM : mainR cx μ S) (hA : aok S B) (hB : B < 800000) (x : Int32) : MT cx l yX4_write cX4_write 2 (some .int) 1 21 [.ref (xa cx 0), .int x] μ (Ei cx (r_write S x) (fun μ1 => mainR cx μ1 (s_write S x) ∧ off 0 136 μ μ1)) := by
  refine mt_of hI (by decide) (Nat.le_of_ble_eq_true rfl) ?_
  intro p e s m below meth c ls F hr hlk hW hl
  have hx := F.1.1
  have hb := F.1.2.1
  have hts := F.1.2.2.2.2
  obtain ⟨m0, hT, hL, ⟨LT, hLT⟩, hPa, hSe, hSl⟩ := id hM
  have hk := hA.2.1
  have hn6 := hk.1
  have h3b : 3 + 7 ≤ xN cx := by omega
  have h10b : 10 + 7 ≤ xN cx := by omega
  obtain ⟨_, _, _, _, _, _, o3, -⟩ := id hL
  obtain ⟨_, _, _, _, _, _, o10, -⟩ := id hLT
  obtain ⟨_, o1, -⟩ := id hT
  obtain ⟨_, _, o17, -⟩ := id hPa
  obtain ⟨_, _, _, o117, -⟩ := id hSe
  obtain ⟨⟨gs, o121, hgs⟩, hsl2, hsl3⟩ := id hSl
  have hl : lv_has ls 2 [(0, .ref (xa cx 0)), (1, .int x)] := hl
  refine lv_iload_n hx hb dX4_write_0 rfl (lv_at hl 1 rfl) ?_
  refine lv_if_lt (tgt := 11) hx hb dX4_write_1 (by decide) (fun c_1 => ?_) (fun c_1 => ?_)
  · skip
    refine lv_bipush (v := (-2)) hx hb dX4_write_11 (by decide) ?_
    have hir : inR x 256 = false := by first | exact inR_neg (by assumption) | exact wr_hi (by assumption)
    exact rt_ie F hr hlk hW (by unfold r_write; rw [hir]; rfl) ⟨by unfold s_write; rw [hir]; exact hM, off_rf⟩ dX4_write_13
  · skip
    refine lv_iload_n hx hb dX4_write_4 rfl (lv_at hl 1 rfl) ?_
    refine lv_sipush (v := nI 255) hx hb dX4_write_5 (by decide) ?_
    refine lv_icmp_le (tgt := 14) hx hb dX4_write_8 (by decide) (fun c_2 => ?_) (fun c_2 => ?_)
    · skip
      obtain ⟨c, hc, rfl⟩ := inR_of (wr_in c_1 c_2) (by omega)
      refine lv_aload_n hx hb dX4_write_14 rfl (lv_at hl 0 rfl) ?_
      refine nv_get F hW (by omega) m0 rfl iX4 0 (by decide) tw_148 rfl dX4_write_15 ?_
      refine lv_iload_n hx hb dX4_write_18 rfl (lv_at hl 1 rfl) ?_
      refine cl_ie (cl_run (rest := []) F hW e_X4_44 (c_append hI l (by omega) hT hA.1 c (by omega)) ⟨Nat.le_of_ble_eq_true rfl, Nat.le_of_ble_eq_true rfl⟩ (by omega) o1 rfl rfl rfl hl (Nat.le_of_ble_eq_true rfl) dX4_write_19 ⟨Nat.zero_le _, Nat.zero_le _⟩) hW (fun μ3 H locs q_3 hW => ?_)
      obtain ⟨hT_3, ho_3⟩ := q_3
      have o0_3 := (ho_3 0 (by omega)).trans m0
      have o3_3 := (ho_3 3 (by omega)).trans o3
      have o10_3 := (ho_3 10 (by omega)).trans o10
      have o17_3 := (ho_3 17 (by omega)).trans o17
      have o117_3 := (ho_3 117 (by omega)).trans o117
      have o121_3 := (ho_3 121 (by omega)).trans o121
      obtain ⟨_, o1_3, -⟩ := id hT_3
      refine nv_beq (tgt := 35) F dX4_write_22 (by decide) (fun c_4 => ?_) (fun c_4 => ?_)
      · skip
        have hge := of_decide_eq_false c_4
        refine lv_bipush (v := (-4)) hx hb dX4_write_35 (by decide) ?_
        have hir : inR (nI c) 256 = true := by rw [inR_nI (by omega)]; exact decide_eq_true hc
        rw [if_neg hge, if_neg hge] at hT_3
        exact rt_ie F hr hlk hW (by unfold r_write; rw [hir, if_pos rfl, if_neg hge]) ⟨by unfold s_write; rw [hir, decide_eq_false hge]; exact ⟨o0_3, hT_3, (laneR_off hL ho_3 (by omega)), ⟨LT, (laneR_off hLT ho_3 (by omega))⟩, (pastR_off hPa ho_3 (by omega)), (seenR_off hSe ho_3 (by omega)), (slotR_off hSl ho_3 (by omega))⟩, off_big ho_3 (by omega)⟩ dX4_write_37
      · skip
        have hlt := of_decide_eq_true c_4
        refine lv_aload_n hx hb dX4_write_25 rfl (lv_at hl 0 rfl) ?_
        refine nv_get F hW (by omega) o0_3 rfl iX4 0 (by decide) tw_148 rfl dX4_write_26 ?_
        refine cl_ip (cl_run (rest := []) F hW e_X4_48 (c_length hI l (by omega) (show textR cx μ3 1 (va_up (At S) (An S) c) (An S + 1) by rw [if_pos hlt, if_pos hlt] at hT_3; exact hT_3) ⟨by omega, tok_up hA.1 (by omega)⟩) ⟨Nat.le_of_ble_eq_true rfl, Nat.le_of_ble_eq_true rfl⟩ (by omega) o1_3 rfl rfl rfl hl (Nat.le_of_ble_eq_true rfl) dX4_write_29 ⟨Nat.zero_le _, Nat.zero_le _⟩) hW (fun H locs hW => ?_)
        refine lv_goto (tgt := 37) hx hb dX4_write_32 (by decide) ?_
        have hir : inR (nI c) 256 = true := by rw [inR_nI (by omega)]; exact decide_eq_true hc
        rw [if_pos hlt, if_pos hlt] at hT_3
        exact rt_ie F hr hlk hW (by unfold r_write; rw [hir, if_pos rfl, if_pos hlt]) ⟨by unfold s_write; rw [hir, decide_eq_true hlt, nI_clamp (by omega)]; exact ⟨o0_3, hT_3, (laneR_off hL ho_3 (by omega)), ⟨LT, (laneR_off hLT ho_3 (by omega))⟩, (pastR_off hPa ho_3 (by omega)), (seenR_off hSe ho_3 (by omega)), (slotR_off hSl ho_3 (by omega))⟩, off_big ho_3 (by omega)⟩ dX4_write_37
    · skip
      refine lv_bipush (v := (-2)) hx hb dX4_write_11 (by decide) ?_
      have hir : inR x 256 = false := by first | exact inR_neg (by assumption) | exact wr_hi (by assumption)
      exact rt_ie F hr hlk hW (by unfold r_write; rw [hir]; rfl) ⟨by unfold s_write; rw [hir]; exact hM, off_rf⟩ dX4_write_13

set_option maxHeartbeats 4000000 in
set_option maxRecDepth 100000 in
theorem k_wipe {cx : CX} (hI : xI cx) (l : Launch) {μ : ME} {S : AS} {B : Nat} (hN : 136 ≤ xN cx) (hM : mainR cx μ S) (hA : aok S B) (hB : B < 800000) : MT cx l yX4_wipe cX4_wipe 1 (some .int) 1 21 [.ref (xa cx 0)] μ (Ei cx (nI (An S)) (fun μ1 => mainR cx μ1 (uT S (At S) 0) ∧ off 0 136 μ μ1)) := by
  refine mt_of hI (by decide) (Nat.le_of_ble_eq_true rfl) ?_
  intro p e s m below meth c ls F hr hlk hW hl
  have hx := F.1.1
  have hb := F.1.2.1
  have hts := F.1.2.2.2.2
  obtain ⟨m0, hT, hL, ⟨LT, hLT⟩, hPa, hSe, hSl⟩ := id hM
  have hk := hA.2.1
  have hn6 := hk.1
  have h3b : 3 + 7 ≤ xN cx := by omega
  have h10b : 10 + 7 ≤ xN cx := by omega
  obtain ⟨_, _, _, _, _, _, o3, -⟩ := id hL
  obtain ⟨_, _, _, _, _, _, o10, -⟩ := id hLT
  obtain ⟨_, o1, -⟩ := id hT
  obtain ⟨_, _, o17, -⟩ := id hPa
  obtain ⟨_, _, _, o117, -⟩ := id hSe
  obtain ⟨⟨gs, o121, hgs⟩, hsl2, hsl3⟩ := id hSl
  have hl : lv_has ls 1 [(0, .ref (xa cx 0))] := hl
  refine lv_aload_n hx hb dX4_wipe_0 rfl (lv_at hl 0 rfl) ?_
  refine nv_get F hW (by omega) m0 rfl iX4 0 (by decide) tw_148 rfl dX4_wipe_1 ?_
  refine cl_ie (cl_run (rest := []) F hW e_X4_52 (c_clear hI l (by omega) hT hA.1) ⟨Nat.le_of_ble_eq_true rfl, Nat.le_of_ble_eq_true rfl⟩ (by omega) o1 rfl rfl rfl hl (Nat.le_of_ble_eq_true rfl) dX4_wipe_4 ⟨Nat.zero_le _, Nat.zero_le _⟩) hW (fun μ1 H locs q_1 hW => ?_)
  obtain ⟨hT_1, ho_1⟩ := q_1
  have o0_1 := (ho_1 0 (by omega)).trans m0
  have o3_1 := (ho_1 3 (by omega)).trans o3
  have o10_1 := (ho_1 10 (by omega)).trans o10
  have o17_1 := (ho_1 17 (by omega)).trans o17
  have o117_1 := (ho_1 117 (by omega)).trans o117
  have o121_1 := (ho_1 121 (by omega)).trans o121
  obtain ⟨_, o1_1, -⟩ := id hT_1
  exact rt_ie F hr hlk hW rfl ⟨⟨o0_1, hT_1, (laneR_off hL ho_1 (by omega)), ⟨LT, (laneR_off hLT ho_1 (by omega))⟩, (pastR_off hPa ho_1 (by omega)), (seenR_off hSe ho_1 (by omega)), (slotR_off hSl ho_1 (by omega))⟩, off_big ho_1 (by omega)⟩ dX4_wipe_7

set_option maxHeartbeats 4000000 in
set_option maxRecDepth 100000 in
theorem k_fault {cx : CX} (hI : xI cx) (l : Launch) {μ : ME} {S : AS} {B : Nat} (hN : 136 ≤ xN cx) (hM : mainR cx μ S) (hA : aok S B) (hB : B < 800000) : MT cx l yX4_fault cX4_fault 1 (some .int) 2 42 [.ref (xa cx 0)] μ (Ei cx (faultI (At S) (An S)) (fun μ1 => mainR cx μ1 S ∧ off 0 136 μ μ1)) := by
  refine mt_of hI (by decide) (Nat.le_of_ble_eq_true rfl) ?_
  intro p e s m below meth c ls F hr hlk hW hl
  have hx := F.1.1
  have hb := F.1.2.1
  have hts := F.1.2.2.2.2
  obtain ⟨m0, hT, hL, ⟨LT, hLT⟩, hPa, hSe, hSl⟩ := id hM
  have hk := hA.2.1
  have hn6 := hk.1
  have h3b : 3 + 7 ≤ xN cx := by omega
  have h10b : 10 + 7 ≤ xN cx := by omega
  obtain ⟨_, _, _, _, _, _, o3, -⟩ := id hL
  obtain ⟨_, _, _, _, _, _, o10, -⟩ := id hLT
  obtain ⟨_, o1, -⟩ := id hT
  obtain ⟨_, _, o17, -⟩ := id hPa
  obtain ⟨_, _, _, o117, -⟩ := id hSe
  obtain ⟨⟨gs, o121, hgs⟩, hsl2, hsl3⟩ := id hSl
  have hl : lv_has ls 1 [(0, .ref (xa cx 0))] := hl
  refine lv_aload_n hx hb dX4_fault_0 rfl (lv_at hl 0 rfl) ?_
  refine nv_get F hW (by omega) m0 rfl iX4 0 (by decide) tw_148 rfl dX4_fault_1 ?_
  refine cl_ip (cl_run (rest := []) F hW e_X4_55 (c_firstFault hI l (by omega) hT hA.1) ⟨Nat.le_of_ble_eq_true rfl, Nat.le_of_ble_eq_true rfl⟩ (by omega) o1 rfl rfl rfl hl (Nat.le_of_ble_eq_true rfl) dX4_fault_4 ⟨Nat.zero_le _, Nat.zero_le _⟩) hW (fun H locs hW => ?_)
  exact rt_ie F hr hlk hW rfl ⟨hM, off_rf⟩ dX4_fault_7
