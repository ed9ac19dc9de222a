theorem lst_bit {L : LN} {B : Nat} (hk : lok L B) (i : Nat) : lst L i = (LU L).testBit i := by
  unfold lst
  by_cases h : i < Ln L
  · rw [decide_eq_true h, Bool.true_and]
  · rw [decide_eq_false h, Nat.testBit_lt_two_pow (Nat.lt_of_lt_of_le hk.2.1 (Nat.pow_le_pow_right (by decide) (by omega)))]
    rfl
def exU (S : AS) (L : LN) : Nat → Bool
  | 0 => true
  | i + 1 => exU S L i && agB (Ah S) (Ao S) (Ab S) (i + 1) (hrs (i + 1) L) (Ay S)
theorem exU_1 {S : AS} {L : LN} {i : Nat} (h : 1 ≤ i) : exU S L i = (exU S L (i - 1) && agB (Ah S) (Ao S) (Ab S) i (hrs i L) (Ay S)) := by
  cases i with
  | zero => omega
  | succ i => rfl
theorem exF_U (S : AS) (L : LN) : ∀ d i, (exU S L i && exF S L d (i + 1)) = exU S L (i + d) := by
  intro d
  induction d with
  | zero => intro i; exact Bool.and_true _
  | succ d ih =>
    intro i
    have h := ih (i + 1)
    rw [show i + (d + 1) = i + 1 + d by omega, ← h]
    show (exU S L i && (agB (Ah S) (Ao S) (Ab S) (i + 1) (hrs (i + 1) L) (Ay S) && exF S L d (i + 1 + 1))) = ((exU S L i && agB (Ah S) (Ao S) (Ab S) (i + 1) (hrs (i + 1) L) (Ay S)) && exF S L d (i + 1 + 1))
    rw [Bool.and_assoc]
theorem exF_9 (S : AS) (L : LN) : exF S L 9 1 = exU S L 9 := by
  have h := exF_U S L 9 0
  rw [show exU S L 0 = true from rfl, Bool.true_and] at h
  exact h
def mbI (S : AS) (L : LN) (i k : Nat) : Bool := exU S L (i - 1) && agB (Ah S) (Ao S) (Ab S) i (hrs i L) k
theorem mbI_s (S : AS) (L : LN) (i k : Nat) : mbI S L i (k + 1) = (mbI S L i k && (decide (¬ Ah S k = i) || (lst (hrs i L) (Ao S k) == decide (Ab S k = 1)))) := (Bool.and_assoc _ _ _).symm

set_option maxHeartbeats 4000000 in
set_option maxRecDepth 100000 in
theorem m_mayBe {cx : CX} (hI : xI cx) (l : Launch) {μ : ME} {S : AS} {B : Nat} {Tr : (Nat → Int32) → Prop} (hN : 149 ≤ xN cx) (hX : modX cx μ S Tr) (hA : aok S B) (hMo : mok S) (hB : B < 800000) (j v : Nat) (hj : j < 100) (hv9 : v < 100) : MT cx l yX5_mayBe cX5_mayBe 7 (some .boolean) 5 118 [.ref (xa cx 136), .int (nI j), .int (nI v)] μ (Ei cx (b2 (nB S j v)) (fun μ1 => modX cx μ1 S (fun _ => True) ∧ off 136 13 μ μ1)) := by
  refine mt_of hI (by decide) (Nat.le_of_ble_eq_true rfl) ?_
  intro p e s m below meth c ls F hr hlk hW hl
  have hx := F.1.1
  have hb := F.1.2.1
  have hts := F.1.2.2.2.2
  obtain ⟨rh, nx, f1, fn, frd, ft, fo, fa, frw, fh, fu, fb, fz, fkp, g136, g137, g138, g139, g140, g141, g142, g143, g144, g145, g146, g147, g148, hg, hv, ht, hnx, hrw, hse, hkp, hTr⟩ := id hX
  have hk := hA.2.1
  have hn6 := hk.1
  have hk4 := hk.2.2.2.1
  have hU := lok_U hk
  have hV0 := modX_V0 hX
  have hl : lv_has ls 7 [(0, .ref (xa cx 136)), (1, .int (nI j)), (2, .int (nI v))] := hl
  refine lv_aload_n hx hb dX5_mayBe_0 rfl (lv_at hl 0 rfl) ?_
  refine lv_iconst (v := nI 0) hx hb dX5_mayBe_1 (by decide) ?_
  refine lv_iload_n hx hb dX5_mayBe_2 rfl (lv_at hl 1 rfl) ?_
  refine lv_iload_n hx hb dX5_mayBe_3 rfl (lv_at hl 2 rfl) ?_
  refine cl_ip (cl_run (rest := []) F hW e_X5_119 (m_canBring hI l hN hV0 hk (by omega) (by omega) j v (by omega) (by omega)) ⟨Nat.le_of_ble_eq_true rfl, Nat.le_of_ble_eq_true rfl⟩ (by omega) g136 rfl rfl rfl hl (Nat.le_of_ble_eq_true rfl) dX5_mayBe_4 ⟨Nat.zero_le _, Nat.zero_le _⟩) hW (fun H locs hW => ?_)
  refine nv_bne (tgt := 12) F dX5_mayBe_7 (by decide) (fun c_1 => ?_) (fun c_1 => ?_)
  · skip
    have hcn : canA (AL S) j v = true := c_1
    have hc99 := of_decide_eq_true hcn
    refine lv_aload_n hx hb dX5_mayBe_12 rfl (lv_at hl 0 rfl) ?_
    refine cl_v (cl_run (rest := []) F hW e_X5_134 (m_layTrial hI l hN hX hA hMo hB) ⟨Nat.le_of_ble_eq_true rfl, Nat.le_of_ble_eq_true rfl⟩ (by omega) g136 rfl rfl rfl hl (Nat.le_of_ble_eq_true rfl) dX5_mayBe_13 ⟨Nat.zero_le _, Nat.zero_le _⟩) hW (fun μ2 H locs q_2 hW => ?_)
    obtain ⟨hX_2, ho_2⟩ := q_2
    obtain ⟨rh_2, nx_2, f1_2, fn_2, frd_2, ft_2, fo_2, fa_2, frw_2, fh_2, fu_2, fb_2, fz_2, fkp_2, g136_2, g137_2, g138_2, g139_2, g140_2, g141_2, g142_2, g143_2, g144_2, g145_2, g146_2, g147_2, g148_2, hg_2, hv_2, ht_2, hnx_2, hrw_2, hse_2, hkp_2, hTr_2⟩ := id hX_2
    have hs_2 : shp (AL S) (AL S) := shp_rf
    have hkT_2 := hk
    have hn_2 : Ln (AL S) = Ln (AL S) := hs_2.1
    have hV0_2 := modX_V0 hX_2
    have hV1_2 := modX_V1 hX_2 hs_2
    refine lv_aload_n hx hb dX5_mayBe_16 rfl (lv_at hl 0 rfl) ?_
    refine nv_get F hW (by omega) g136_2 rfl iX5 2 (by decide) tw_631 rfl dX5_mayBe_17 ?_
    refine lv_bipush (v := nI 37) hx hb dX5_mayBe_20 (by decide) ?_
    refine lv_iload_n hx hb dX5_mayBe_22 rfl (lv_at hl 1 rfl) ?_
    refine nv_add F dX5_mayBe_23 ?_
    refine lv_dup2_11 hx hb dX5_mayBe_24 rfl rfl ?_
    refine nv_ialdN (x := ((nI (Ls (AL S) j)))) F hW (by omega) g138_2 (by omega) (by decide) (hTr_2.1 j (by omega)).2.1 dX5_mayBe_25 ?_
    refine lv_iload_n hx hb dX5_mayBe_26 rfl (lv_at hl 2 rfl) ?_
    refine nv_add F dX5_mayBe_27 ?_
    refine nv_iastN F hW (by omega) g138_2 (by omega) (by decide) dX5_mayBe_28 (fun H locs hW => ?_)
    obtain ⟨μ3, eμ3⟩ : ∃ zz9 : ME, zz9 = va_up μ2 138 (.inl (xT cx 0, 62, .inl (upd fn_2 (37 + j) ((nI ((Ls (AL S) j) + v)))))) := ⟨_, rfl⟩
    have hW : St cx s μ3 H locs := by rw [eμ3]; exact hW
    have h136_3 := (congrFun eμ3 136).trans ((va_up_ne _ _ (by omega)).trans g136_2)
    have h137_3 := (congrFun eμ3 137).trans ((va_up_ne _ _ (by omega)).trans g137_2)
    have h138_3 : μ3 138 = .inl (xT cx 0, 62, .inl (upd fn_2 (37 + j) ((nI ((Ls (AL S) j) + v))))) := by rw [eμ3, va_up_self]
    have h139_3 := (congrFun eμ3 139).trans ((va_up_ne _ _ (by omega)).trans g139_2)
    have h140_3 := (congrFun eμ3 140).trans ((va_up_ne _ _ (by omega)).trans g140_2)
    have h141_3 := (congrFun eμ3 141).trans ((va_up_ne _ _ (by omega)).trans g141_2)
    have h142_3 := (congrFun eμ3 142).trans ((va_up_ne _ _ (by omega)).trans g142_2)
    have h143_3 := (congrFun eμ3 143).trans ((va_up_ne _ _ (by omega)).trans g143_2)
    have h144_3 := (congrFun eμ3 144).trans ((va_up_ne _ _ (by omega)).trans g144_2)
    have h145_3 := (congrFun eμ3 145).trans ((va_up_ne _ _ (by omega)).trans g145_2)
    have h146_3 := (congrFun eμ3 146).trans ((va_up_ne _ _ (by omega)).trans g146_2)
    have h147_3 := (congrFun eμ3 147).trans ((va_up_ne _ _ (by omega)).trans g147_2)
    have h148_3 := (congrFun eμ3 148).trans ((va_up_ne _ _ (by omega)).trans g148_2)
    have hX_t3 : modX cx μ3 S (fun fn => lv fn 31 (addS (AL S) j v)) := modX_138 hX_2 hn6 g138_2 eμ3 (fun z hz => upd_ne (by omega)) (by unfold addS; rw [if_pos hcn]; exact lv_s (o := 31) hTr_2 hn6 hc99.1)
    obtain ⟨rh_t3, nx_t3, f1_t3, fn_t3, frd_t3, ft_t3, fo_t3, fa_t3, frw_t3, fh_t3, fu_t3, fb_t3, fz_t3, fkp_t3, g136_t3, g137_t3, g138_t3, g139_t3, g140_t3, g141_t3, g142_t3, g143_t3, g144_t3, g145_t3, g146_t3, g147_t3, g148_t3, hg_t3, hv_t3, ht_t3, hnx_t3, hrw_t3, hse_t3, hkp_t3, hTr_t3⟩ := id hX_t3
    have hs_t3 : shp (addS (AL S) j v) (AL S) := shp_addS
    have hkT_t3 := lok_addS hk j v
    have hn_t3 : Ln (addS (AL S) j v) = Ln (AL S) := hs_t3.1
    have hV0_t3 := modX_V0 hX_t3
    have hV1_t3 := modX_V1 hX_t3 hs_t3
    refine lv_iconst (v := nI 1) hx hb dX5_mayBe_29 (by decide) ?_
    refine lv_istore_n (lv' := [(3, .int (nI 1)), (0, .ref (xa cx 136)), (1, .int (nI j)), (2, .int (nI v))]) hx hb dX5_mayBe_30 rfl hl (by decide) rfl (fun ls hl => ?_)
    refine lv_iconst (v := nI 1) hx hb dX5_mayBe_31 (by decide) ?_
    refine lv_istore (lv' := [(4, .int (nI 1)), (3, .int (nI 1)), (0, .ref (xa cx 136)), (1, .int (nI j)), (2, .int (nI v))]) hx hb dX5_mayBe_32 hl (by decide) rfl (fun ls hl => ?_)
    have LOOP : ∀ (d i : Nat)  (μLOOP : ME) (H : Heap) (locs : List Loc) (ls : Array Slot), i + d = 10 → (modX cx μLOOP S (fun fn => lv fn 31 (hrs (i - 1) (addS (AL S) j v)))) → (off 136 13 μ μLOOP) → (1 ≤ i) → St cx s μLOOP H locs → lv_has ls 7 [(0, .ref (xa cx 136)), (1, .int (nI j)), (2, .int (nI v)), (3, .int (b2 (exU S (addS (AL S) j v) (i - 1)))), (4, .int (nI i))] → W p l e { frames := 5, cells := 0, slots := 0, locals := 118 } s m [.ref (xa cx 136), .int (nI j), .int (nI v)].toArray below meth c H locs 0 0 (MQ below (Ei cx (b2 (nB S j v)) (fun μ1 => modX cx μ1 S (fun _ => True) ∧ off 136 13 μ μ1)) [.ref (xa cx 136), .int (nI j), .int (nI v)].toArray s 0 0 (xA cx)) (F0 m 34 ls []) := by
      intro d
      induction d with
      | zero =>
        intro i  μLOOP H locs ls hid hXiLOOP hoiLOOP hi1 hW hl
        obtain ⟨rh_i, nx_i, f1_i, fn_i, frd_i, ft_i, fo_i, fa_i, frw_i, fh_i, fu_i, fb_i, fz_i, fkp_i, g136_i, g137_i, g138_i, g139_i, g140_i, g141_i, g142_i, g143_i, g144_i, g145_i, g146_i, g147_i, g148_i, hg_i, hv_i, ht_i, hnx_i, hrw_i, hse_i, hkp_i, hTr_i⟩ := id hXiLOOP
        have hs_i : shp (hrs (i - 1) (addS (AL S) j v)) (AL S) := shp_tr (shp_hrs _) shp_addS
        have hkT_i := lok_hrs (lok_addS hk j v) (i - 1)
        have hn_i : Ln (hrs (i - 1) (addS (AL S) j v)) = Ln (AL S) := hs_i.1
        have hV0_i := modX_V0 hXiLOOP
        have hV1_i := modX_V1 hXiLOOP hs_i
        have ehr : hrs i (addS (AL S) j v) = hour (hrs (i - 1) (addS (AL S) j v)) := by cases i with | zero => omega | succ i => rfl
        have hy6 := hA.2.2.2.1.1
        refine lv_iload hx hb dX5_mayBe_34 (lv_at hl 4 rfl) ?_
        refine lv_bipush (v := nI 9) hx hb dX5_mayBe_36 (by decide) ?_
        refine nv_cgt (tgt := 131) F (by omega) (by omega) dX5_mayBe_38 (by decide) (fun c_4 => ?_) (fun c_4 => ?_)
        · skip
          refine lv_iload_n hx hb dX5_mayBe_131 rfl (lv_at hl 3 rfl) ?_
          exact rt_ze F hr hlk hW (by unfold nB; rw [hcn, exF_9, show i - 1 = 9 by omega]; rfl) ⟨(modX_tr hXiLOOP (fun _ _ => trivial)), (fun z hz => by rw [hoiLOOP z (by omega)])⟩ dX5_mayBe_132
        · skip
          exact absurd c_4 (by omega)
      | succ d ih =>
        intro i  μLOOP H locs ls hid hXiLOOP hoiLOOP hi1 hW hl
        obtain ⟨rh_i, nx_i, f1_i, fn_i, frd_i, ft_i, fo_i, fa_i, frw_i, fh_i, fu_i, fb_i, fz_i, fkp_i, g136_i, g137_i, g138_i, g139_i, g140_i, g141_i, g142_i, g143_i, g144_i, g145_i, g146_i, g147_i, g148_i, hg_i, hv_i, ht_i, hnx_i, hrw_i, hse_i, hkp_i, hTr_i⟩ := id hXiLOOP
        have hs_i : shp (hrs (i - 1) (addS (AL S) j v)) (AL S) := shp_tr (shp_hrs _) shp_addS
        have hkT_i := lok_hrs (lok_addS hk j v) (i - 1)
        have hn_i : Ln (hrs (i - 1) (addS (AL S) j v)) = Ln (AL S) := hs_i.1
        have hV0_i := modX_V0 hXiLOOP
        have hV1_i := modX_V1 hXiLOOP hs_i
        have ehr : hrs i (addS (AL S) j v) = hour (hrs (i - 1) (addS (AL S) j v)) := by cases i with | zero => omega | succ i => rfl
        have hy6 := hA.2.2.2.1.1
        refine lv_iload hx hb dX5_mayBe_34 (lv_at hl 4 rfl) ?_
        refine lv_bipush (v := nI 9) hx hb dX5_mayBe_36 (by decide) ?_
        refine nv_cgt (tgt := 131) F (by omega) (by omega) dX5_mayBe_38 (by decide) (fun c_5 => ?_) (fun c_5 => ?_)
        · skip
          exact absurd c_5 (by omega)
        · skip
          refine lv_aload_n hx hb dX5_mayBe_41 rfl (lv_at hl 0 rfl) ?_
          refine lv_iconst (v := nI 1) hx hb dX5_mayBe_42 (by decide) ?_
          refine cl_ie (cl_run (rest := []) F hW e_X5_137 (m_goOn1 hI l hN hXiLOOP hA hMo hB hs_i hkT_i (by omega)) ⟨Nat.le_of_ble_eq_true rfl, Nat.le_of_ble_eq_true rfl⟩ (by omega) g136_i rfl rfl rfl hl (Nat.le_of_ble_eq_true rfl) dX5_mayBe_43 ⟨Nat.zero_le _, Nat.zero_le _⟩) hW (fun μ6 H locs q_6 hW => ?_)
          obtain ⟨hX_6, ho_6⟩ := q_6
          have hX_6 : modX cx μ6 S (fun fn => lv fn 31 (hrs i (addS (AL S) j v))) := by rw [ehr]; exact hX_6
          have hkG := lok_hrs (lok_addS hk j v) i
          obtain ⟨rh_6, nx_6, f1_6, fn_6, frd_6, ft_6, fo_6, fa_6, frw_6, fh_6, fu_6, fb_6, fz_6, fkp_6, g136_6, g137_6, g138_6, g139_6, g140_6, g141_6, g142_6, g143_6, g144_6, g145_6, g146_6, g147_6, g148_6, hg_6, hv_6, ht_6, hnx_6, hrw_6, hse_6, hkp_6, hTr_6⟩ := id hX_6
          have hs_6 : shp (hrs i (addS (AL S) j v)) (AL S) := shp_tr (shp_hrs i) shp_addS
          have hkT_6 := lok_hrs (lok_addS hk j v) i
          have hn_6 : Ln (hrs i (addS (AL S) j v)) = Ln (AL S) := hs_6.1
          have hV0_6 := modX_V0 hX_6
          have hV1_6 := modX_V1 hX_6 hs_6
          refine lv_pop hx hb dX5_mayBe_46 rfl ?_
          refine lv_aload_n hx hb dX5_mayBe_47 rfl (lv_at hl 0 rfl) ?_
          refine lv_iconst (v := nI 1) hx hb dX5_mayBe_48 (by decide) ?_
          refine cl_ip (cl_run (rest := []) F hW e_X5_140 (m_standingOn hI l hN hV1_6 hkT_6 (by omega) (by omega)) ⟨Nat.le_of_ble_eq_true rfl, Nat.le_of_ble_eq_true rfl⟩ (by omega) g136_6 rfl rfl rfl hl (Nat.le_of_ble_eq_true rfl) dX5_mayBe_49 ⟨Nat.zero_le _, Nat.zero_le _⟩) hW (fun H locs hW => ?_)
          refine lv_istore (lv' := [(5, .int (nI (LU (hrs i (addS (AL S) j v))))), (0, .ref (xa cx 136)), (1, .int (nI j)), (2, .int (nI v)), (3, .int (b2 (exU S (addS (AL S) j v) (i - 1)))), (4, .int (nI i))]) hx hb dX5_mayBe_52 hl (by decide) rfl (fun ls hl => ?_)
          refine lv_iconst (v := nI 0) hx hb dX5_mayBe_54 (by decide) ?_
          refine lv_istore (lv' := [(6, .int (nI 0)), (5, .int (nI (LU (hrs i (addS (AL S) j v))))), (0, .ref (xa cx 136)), (1, .int (nI j)), (2, .int (nI v)), (3, .int (b2 (exU S (addS (AL S) j v) (i - 1)))), (4, .int (nI i))]) hx hb dX5_mayBe_55 hl (by decide) rfl (fun ls hl => ?_)
          have e0 : exU S (addS (AL S) j v) (i - 1) = mbI S (addS (AL S) j v) i 0 := (Bool.and_true _).symm
          have LK : ∀ (dk k : Nat)  (H : Heap) (locs : List Loc) (ls : Array Slot), k + dk = Ay S → St cx s μ6 H locs → lv_has ls 7 [(0, .ref (xa cx 136)), (1, .int (nI j)), (2, .int (nI v)), (3, .int (b2 (mbI S (addS (AL S) j v) i k))), (4, .int (nI i)), (5, .int (nI (LU (hrs i (addS (AL S) j v))))), (6, .int (nI k))] → W p l e { frames := 5, cells := 0, slots := 0, locals := 118 } s m [.ref (xa cx 136), .int (nI j), .int (nI v)].toArray below meth c H locs 0 0 (MQ below (Ei cx (b2 (nB S j v)) (fun μ1 => modX cx μ1 S (fun _ => True) ∧ off 136 13 μ μ1)) [.ref (xa cx 136), .int (nI j), .int (nI v)].toArray s 0 0 (xA cx)) (F0 m 57 ls []) := by
            intro dk
            induction dk with
            | zero =>
              intro k   H locs ls hid  hW hl
              refine lv_iload hx hb dX5_mayBe_57 (lv_at hl 6 rfl) ?_
              refine lv_aload_n hx hb dX5_mayBe_59 rfl (lv_at hl 0 rfl) ?_
              refine nv_get F hW (by omega) g136_6 rfl iX5 12 (by decide) tw_641 rfl dX5_mayBe_60 ?_
              refine nv_cge (tgt := 125) F (by omega) (by omega) dX5_mayBe_63 (by decide) (fun c_7 => ?_) (fun c_7 => ?_)
              · skip
                refine lv_iinc (v := ((nI (i + 1)))) (lv' := [(4, .int (nI (i + 1))), (0, .ref (xa cx 136)), (1, .int (nI j)), (2, .int (nI v)), (3, .int (b2 (mbI S (addS (AL S) j v) i k))), (5, .int (nI (LU (hrs i (addS (AL S) j v))))), (6, .int (nI k))]) hx hb dX5_mayBe_125 hl (k := 4) rfl (nI_add _ _) (by decide) rfl (fun ls hl => ?_)
                refine lv_goto (tgt := 34) hx hb dX5_mayBe_128 (by decide) ?_
                have e9 : exU S (addS (AL S) j v) (i + 1 - 1) = mbI S (addS (AL S) j v) i k := by rw [Nat.add_sub_cancel, show k = Ay S by omega]; exact exU_1 hi1
                exact ih (i + 1) μ6 _ _ _ (by omega) (by rw [Nat.add_sub_cancel]; exact hX_6) (fun z hz => by rw [ho_6 z (by omega)]; rw [hoiLOOP z (by omega)]) (by omega) hW (by rw [e9]; exact lv_sub hl [1, 2, 3, 4, 0] rfl)
              · skip
                exact absurd c_7 (by omega)
            | succ dk ihK =>
              intro k   H locs ls hid  hW hl
              refine lv_iload hx hb dX5_mayBe_57 (lv_at hl 6 rfl) ?_
              refine lv_aload_n hx hb dX5_mayBe_59 rfl (lv_at hl 0 rfl) ?_
              refine nv_get F hW (by omega) g136_6 rfl iX5 12 (by decide) tw_641 rfl dX5_mayBe_60 ?_
              refine nv_cge (tgt := 125) F (by omega) (by omega) dX5_mayBe_63 (by decide) (fun c_8 => ?_) (fun c_8 => ?_)
              · skip
                exact absurd c_8 (by omega)
              · skip
                have hso := hA.2.2.2.1.2 k (by omega)
                refine lv_iload_n hx hb dX5_mayBe_66 rfl (lv_at hl 3 rfl) ?_
                refine nv_beq (tgt := 117) F dX5_mayBe_67 (by decide) (fun c_9 => ?_) (fun c_9 => ?_)
                · skip
                  refine lv_iconst (v := nI 0) hx hb dX5_mayBe_117 (by decide) ?_
                  refine lv_istore_n (lv' := [(3, .int (nI 0)), (0, .ref (xa cx 136)), (1, .int (nI j)), (2, .int (nI v)), (4, .int (nI i)), (5, .int (nI (LU (hrs i (addS (AL S) j v))))), (6, .int (nI k))]) hx hb dX5_mayBe_118 rfl hl (by decide) rfl (fun ls hl => ?_)
                  refine lv_iinc (v := ((nI (k + 1)))) (lv' := [(6, .int (nI (k + 1))), (3, .int (nI 0)), (0, .ref (xa cx 136)), (1, .int (nI j)), (2, .int (nI v)), (4, .int (nI i)), (5, .int (nI (LU (hrs i (addS (AL S) j v)))))]) hx hb dX5_mayBe_119 hl (k := 6) rfl (nI_add _ _) (by decide) rfl (fun ls hl => ?_)
                  refine lv_goto (tgt := 57) hx hb dX5_mayBe_122 (by decide) ?_
                  have e9 : mbI S (addS (AL S) j v) i (k + 1) = false := by
                    rw [mbI_s, lst_bit hkG]
                    first | (rw [‹mbI S (addS (AL S) j v) i k = false›]; rfl) | (rw [‹mbI S (addS (AL S) j v) i k = true›, decide_eq_true (show ¬ Ah S k = i by omega)]; rfl) | (rw [‹mbI S (addS (AL S) j v) i k = true›, decide_eq_false (show ¬ ¬ Ah S k = i by omega), ‹(LU (hrs i (addS (AL S) j v))).testBit (Ao S k) = true›, decide_eq_true (show Ab S k = 1 by omega)]; rfl) | (rw [‹mbI S (addS (AL S) j v) i k = true›, decide_eq_false (show ¬ ¬ Ah S k = i by omega), ‹(LU (hrs i (addS (AL S) j v))).testBit (Ao S k) = true›, decide_eq_false (show ¬ Ab S k = 1 by omega)]; rfl) | (rw [‹mbI S (addS (AL S) j v) i k = true›, decide_eq_false (show ¬ ¬ Ah S k = i by omega), ‹(LU (hrs i (addS (AL S) j v))).testBit (Ao S k) = false›, decide_eq_true (show Ab S k = 1 by omega)]; rfl) | (rw [‹mbI S (addS (AL S) j v) i k = true›, decide_eq_false (show ¬ ¬ Ah S k = i by omega), ‹(LU (hrs i (addS (AL S) j v))).testBit (Ao S k) = false›, decide_eq_false (show ¬ Ab S k = 1 by omega)]; rfl)
                  exact ihK (k + 1) _ _ _ (by omega) hW (by rw [e9]; exact lv_sub hl [2, 3, 4, 1, 5, 6, 0] rfl)
                · skip
                  refine lv_aload_n hx hb dX5_mayBe_70 rfl (lv_at hl 0 rfl) ?_
                  refine nv_get F hW (by omega) g136_6 rfl iX5 13 (by decide) tw_642 rfl dX5_mayBe_71 ?_
                  refine lv_iload hx hb dX5_mayBe_74 (lv_at hl 6 rfl) ?_
                  refine nv_ialdN (x := ((nI (Ah S k)))) F hW (by omega) g144_6 (by omega) (by decide) (hse_6 k (by omega)).1 dX5_mayBe_76 ?_
                  refine lv_iload hx hb dX5_mayBe_77 (lv_at hl 4 rfl) ?_
                  refine nv_cne (tgt := 113) F (by omega) (by omega) dX5_mayBe_79 (by decide) (fun c_10 => ?_) (fun c_10 => ?_)
                  · skip
                    refine lv_iconst (v := nI 1) hx hb dX5_mayBe_113 (by decide) ?_
                    refine lv_goto (tgt := 118) hx hb dX5_mayBe_114 (by decide) ?_
                    refine lv_istore_n (lv' := [(3, .int (nI 1)), (0, .ref (xa cx 136)), (1, .int (nI j)), (2, .int (nI v)), (4, .int (nI i)), (5, .int (nI (LU (hrs i (addS (AL S) j v))))), (6, .int (nI k))]) hx hb dX5_mayBe_118 rfl hl (by decide) rfl (fun ls hl => ?_)
                    refine lv_iinc (v := ((nI (k + 1)))) (lv' := [(6, .int (nI (k + 1))), (3, .int (nI 1)), (0, .ref (xa cx 136)), (1, .int (nI j)), (2, .int (nI v)), (4, .int (nI i)), (5, .int (nI (LU (hrs i (addS (AL S) j v)))))]) hx hb dX5_mayBe_119 hl (k := 6) rfl (nI_add _ _) (by decide) rfl (fun ls hl => ?_)
                    refine lv_goto (tgt := 57) hx hb dX5_mayBe_122 (by decide) ?_
                    have e9 : mbI S (addS (AL S) j v) i (k + 1) = true := by
                      rw [mbI_s, lst_bit hkG]
                      first | (rw [‹mbI S (addS (AL S) j v) i k = false›]; rfl) | (rw [‹mbI S (addS (AL S) j v) i k = true›, decide_eq_true (show ¬ Ah S k = i by omega)]; rfl) | (rw [‹mbI S (addS (AL S) j v) i k = true›, decide_eq_false (show ¬ ¬ Ah S k = i by omega), ‹(LU (hrs i (addS (AL S) j v))).testBit (Ao S k) = true›, decide_eq_true (show Ab S k = 1 by omega)]; rfl) | (rw [‹mbI S (addS (AL S) j v) i k = true›, decide_eq_false (show ¬ ¬ Ah S k = i by omega), ‹(LU (hrs i (addS (AL S) j v))).testBit (Ao S k) = true›, decide_eq_false (show ¬ Ab S k = 1 by omega)]; rfl) | (rw [‹mbI S (addS (AL S) j v) i k = true›, decide_eq_false (show ¬ ¬ Ah S k = i by omega), ‹(LU (hrs i (addS (AL S) j v))).testBit (Ao S k) = false›, decide_eq_true (show Ab S k = 1 by omega)]; rfl) | (rw [‹mbI S (addS (AL S) j v) i k = true›, decide_eq_false (show ¬ ¬ Ah S k = i by omega), ‹(LU (hrs i (addS (AL S) j v))).testBit (Ao S k) = false›, decide_eq_false (show ¬ Ab S k = 1 by omega)]; rfl)
                    exact ihK (k + 1) _ _ _ (by omega) hW (by rw [e9]; exact lv_sub hl [2, 3, 4, 1, 5, 6, 0] rfl)
                  · skip
                    refine lv_iload hx hb dX5_mayBe_82 (lv_at hl 5 rfl) ?_
                    refine lv_aload_n hx hb dX5_mayBe_84 rfl (lv_at hl 0 rfl) ?_
                    refine nv_get F hW (by omega) g136_6 rfl iX5 14 (by decide) tw_643 rfl dX5_mayBe_85 ?_
                    refine lv_iload hx hb dX5_mayBe_88 (lv_at hl 6 rfl) ?_
                    refine nv_ialdN (x := ((nI (Ao S k)))) F hW (by omega) g145_6 (by omega) (by decide) (hse_6 k (by omega)).2.1 dX5_mayBe_90 ?_
                    refine cl_ip (cl_runS (rest := []) F hW e_X5_102 (m_has hI l (LU (hrs i (addS (AL S) j v))) (Ao S k) (lok_U hkG) (by omega)) ⟨Nat.le_of_ble_eq_true rfl, Nat.le_of_ble_eq_true rfl⟩ rfl rfl hl (Nat.le_of_ble_eq_true rfl) dX5_mayBe_91 ⟨Nat.zero_le _, Nat.zero_le _⟩) hW (fun H locs hW => ?_)
                    refine lv_aload_n hx hb dX5_mayBe_94 rfl (lv_at hl 0 rfl) ?_
                    refine nv_get F hW (by omega) g136_6 rfl iX5 15 (by decide) tw_644 rfl dX5_mayBe_95 ?_
                    refine lv_iload hx hb dX5_mayBe_98 (lv_at hl 6 rfl) ?_
                    refine nv_ialdN (x := ((nI (Ab S k)))) F hW (by omega) g146_6 (by omega) (by decide) (hse_6 k (by omega)).2.2 dX5_mayBe_100 ?_
                    refine lv_iconst (v := nI 1) hx hb dX5_mayBe_101 (by decide) ?_
                    refine nv_cne (tgt := 109) F (by omega) (by omega) dX5_mayBe_102 (by decide) (fun c_11 => ?_) (fun c_11 => ?_)
                    · skip
                      refine lv_iconst (v := nI 0) hx hb dX5_mayBe_109 (by decide) ?_
                      refine nv_b0ne (tgt := 117) F dX5_mayBe_110 (by decide) (fun c_12 => ?_) (fun c_12 => ?_)
                      · skip
                        refine lv_iconst (v := nI 0) hx hb dX5_mayBe_117 (by decide) ?_
                        refine lv_istore_n (lv' := [(3, .int (nI 0)), (0, .ref (xa cx 136)), (1, .int (nI j)), (2, .int (nI v)), (4, .int (nI i)), (5, .int (nI (LU (hrs i (addS (AL S) j v))))), (6, .int (nI k))]) hx hb dX5_mayBe_118 rfl hl (by decide) rfl (fun ls hl => ?_)
                        refine lv_iinc (v := ((nI (k + 1)))) (lv' := [(6, .int (nI (k + 1))), (3, .int (nI 0)), (0, .ref (xa cx 136)), (1, .int (nI j)), (2, .int (nI v)), (4, .int (nI i)), (5, .int (nI (LU (hrs i (addS (AL S) j v)))))]) hx hb dX5_mayBe_119 hl (k := 6) rfl (nI_add _ _) (by decide) rfl (fun ls hl => ?_)
                        refine lv_goto (tgt := 57) hx hb dX5_mayBe_122 (by decide) ?_
                        have e9 : mbI S (addS (AL S) j v) i (k + 1) = false := by
                          rw [mbI_s, lst_bit hkG]
                          first | (rw [‹mbI S (addS (AL S) j v) i k = false›]; rfl) | (rw [‹mbI S (addS (AL S) j v) i k = true›, decide_eq_true (show ¬ Ah S k = i by omega)]; rfl) | (rw [‹mbI S (addS (AL S) j v) i k = true›, decide_eq_false (show ¬ ¬ Ah S k = i by omega), ‹(LU (hrs i (addS (AL S) j v))).testBit (Ao S k) = true›, decide_eq_true (show Ab S k = 1 by omega)]; rfl) | (rw [‹mbI S (addS (AL S) j v) i k = true›, decide_eq_false (show ¬ ¬ Ah S k = i by omega), ‹(LU (hrs i (addS (AL S) j v))).testBit (Ao S k) = true›, decide_eq_false (show ¬ Ab S k = 1 by omega)]; rfl) | (rw [‹mbI S (addS (AL S) j v) i k = true›, decide_eq_false (show ¬ ¬ Ah S k = i by omega), ‹(LU (hrs i (addS (AL S) j v))).testBit (Ao S k) = false›, decide_eq_true (show Ab S k = 1 by omega)]; rfl) | (rw [‹mbI S (addS (AL S) j v) i k = true›, decide_eq_false (show ¬ ¬ Ah S k = i by omega), ‹(LU (hrs i (addS (AL S) j v))).testBit (Ao S k) = false›, decide_eq_false (show ¬ Ab S k = 1 by omega)]; rfl)
                        exact ihK (k + 1) _ _ _ (by omega) hW (by rw [e9]; exact lv_sub hl [2, 3, 4, 1, 5, 6, 0] rfl)
                      · skip
                        refine lv_iconst (v := nI 1) hx hb dX5_mayBe_113 (by decide) ?_
                        refine lv_goto (tgt := 118) hx hb dX5_mayBe_114 (by decide) ?_
                        refine lv_istore_n (lv' := [(3, .int (nI 1)), (0, .ref (xa cx 136)), (1, .int (nI j)), (2, .int (nI v)), (4, .int (nI i)), (5, .int (nI (LU (hrs i (addS (AL S) j v))))), (6, .int (nI k))]) hx hb dX5_mayBe_118 rfl hl (by decide) rfl (fun ls hl => ?_)
                        refine lv_iinc (v := ((nI (k + 1)))) (lv' := [(6, .int (nI (k + 1))), (3, .int (nI 1)), (0, .ref (xa cx 136)), (1, .int (nI j)), (2, .int (nI v)), (4, .int (nI i)), (5, .int (nI (LU (hrs i (addS (AL S) j v)))))]) hx hb dX5_mayBe_119 hl (k := 6) rfl (nI_add _ _) (by decide) rfl (fun ls hl => ?_)
                        refine lv_goto (tgt := 57) hx hb dX5_mayBe_122 (by decide) ?_
                        have e9 : mbI S (addS (AL S) j v) i (k + 1) = true := by
                          rw [mbI_s, lst_bit hkG]
                          first | (rw [‹mbI S (addS (AL S) j v) i k = false›]; rfl) | (rw [‹mbI S (addS (AL S) j v) i k = true›, decide_eq_true (show ¬ Ah S k = i by omega)]; rfl) | (rw [‹mbI S (addS (AL S) j v) i k = true›, decide_eq_false (show ¬ ¬ Ah S k = i by omega), ‹(LU (hrs i (addS (AL S) j v))).testBit (Ao S k) = true›, decide_eq_true (show Ab S k = 1 by omega)]; rfl) | (rw [‹mbI S (addS (AL S) j v) i k = true›, decide_eq_false (show ¬ ¬ Ah S k = i by omega), ‹(LU (hrs i (addS (AL S) j v))).testBit (Ao S k) = true›, decide_eq_false (show ¬ Ab S k = 1 by omega)]; rfl) | (rw [‹mbI S (addS (AL S) j v) i k = true›, decide_eq_false (show ¬ ¬ Ah S k = i by omega), ‹(LU (hrs i (addS (AL S) j v))).testBit (Ao S k) = false›, decide_eq_true (show Ab S k = 1 by omega)]; rfl) | (rw [‹mbI S (addS (AL S) j v) i k = true›, decide_eq_false (show ¬ ¬ Ah S k = i by omega), ‹(LU (hrs i (addS (AL S) j v))).testBit (Ao S k) = false›, decide_eq_false (show ¬ Ab S k = 1 by omega)]; rfl)
                        exact ihK (k + 1) _ _ _ (by omega) hW (by rw [e9]; exact lv_sub hl [2, 3, 4, 1, 5, 6, 0] rfl)
                    · skip
                      refine lv_iconst (v := nI 1) hx hb dX5_mayBe_105 (by decide) ?_
                      refine lv_goto (tgt := 110) hx hb dX5_mayBe_106 (by decide) ?_
                      refine nv_b1ne (tgt := 117) F dX5_mayBe_110 (by decide) (fun c_13 => ?_) (fun c_13 => ?_)
                      · skip
                        refine lv_iconst (v := nI 0) hx hb dX5_mayBe_117 (by decide) ?_
                        refine lv_istore_n (lv' := [(3, .int (nI 0)), (0, .ref (xa cx 136)), (1, .int (nI j)), (2, .int (nI v)), (4, .int (nI i)), (5, .int (nI (LU (hrs i (addS (AL S) j v))))), (6, .int (nI k))]) hx hb dX5_mayBe_118 rfl hl (by decide) rfl (fun ls hl => ?_)
                        refine lv_iinc (v := ((nI (k + 1)))) (lv' := [(6, .int (nI (k + 1))), (3, .int (nI 0)), (0, .ref (xa cx 136)), (1, .int (nI j)), (2, .int (nI v)), (4, .int (nI i)), (5, .int (nI (LU (hrs i (addS (AL S) j v)))))]) hx hb dX5_mayBe_119 hl (k := 6) rfl (nI_add _ _) (by decide) rfl (fun ls hl => ?_)
                        refine lv_goto (tgt := 57) hx hb dX5_mayBe_122 (by decide) ?_
                        have e9 : mbI S (addS (AL S) j v) i (k + 1) = false := by
                          rw [mbI_s, lst_bit hkG]
                          first | (rw [‹mbI S (addS (AL S) j v) i k = false›]; rfl) | (rw [‹mbI S (addS (AL S) j v) i k = true›, decide_eq_true (show ¬ Ah S k = i by omega)]; rfl) | (rw [‹mbI S (addS (AL S) j v) i k = true›, decide_eq_false (show ¬ ¬ Ah S k = i by omega), ‹(LU (hrs i (addS (AL S) j v))).testBit (Ao S k) = true›, decide_eq_true (show Ab S k = 1 by omega)]; rfl) | (rw [‹mbI S (addS (AL S) j v) i k = true›, decide_eq_false (show ¬ ¬ Ah S k = i by omega), ‹(LU (hrs i (addS (AL S) j v))).testBit (Ao S k) = true›, decide_eq_false (show ¬ Ab S k = 1 by omega)]; rfl) | (rw [‹mbI S (addS (AL S) j v) i k = true›, decide_eq_false (show ¬ ¬ Ah S k = i by omega), ‹(LU (hrs i (addS (AL S) j v))).testBit (Ao S k) = false›, decide_eq_true (show Ab S k = 1 by omega)]; rfl) | (rw [‹mbI S (addS (AL S) j v) i k = true›, decide_eq_false (show ¬ ¬ Ah S k = i by omega), ‹(LU (hrs i (addS (AL S) j v))).testBit (Ao S k) = false›, decide_eq_false (show ¬ Ab S k = 1 by omega)]; rfl)
                        exact ihK (k + 1) _ _ _ (by omega) hW (by rw [e9]; exact lv_sub hl [2, 3, 4, 1, 5, 6, 0] rfl)
                      · skip
                        refine lv_iconst (v := nI 1) hx hb dX5_mayBe_113 (by decide) ?_
                        refine lv_goto (tgt := 118) hx hb dX5_mayBe_114 (by decide) ?_
                        refine lv_istore_n (lv' := [(3, .int (nI 1)), (0, .ref (xa cx 136)), (1, .int (nI j)), (2, .int (nI v)), (4, .int (nI i)), (5, .int (nI (LU (hrs i (addS (AL S) j v))))), (6, .int (nI k))]) hx hb dX5_mayBe_118 rfl hl (by decide) rfl (fun ls hl => ?_)
                        refine lv_iinc (v := ((nI (k + 1)))) (lv' := [(6, .int (nI (k + 1))), (3, .int (nI 1)), (0, .ref (xa cx 136)), (1, .int (nI j)), (2, .int (nI v)), (4, .int (nI i)), (5, .int (nI (LU (hrs i (addS (AL S) j v)))))]) hx hb dX5_mayBe_119 hl (k := 6) rfl (nI_add _ _) (by decide) rfl (fun ls hl => ?_)
                        refine lv_goto (tgt := 57) hx hb dX5_mayBe_122 (by decide) ?_
                        have e9 : mbI S (addS (AL S) j v) i (k + 1) = true := by
                          rw [mbI_s, lst_bit hkG]
                          first | (rw [‹mbI S (addS (AL S) j v) i k = false›]; rfl) | (rw [‹mbI S (addS (AL S) j v) i k = true›, decide_eq_true (show ¬ Ah S k = i by omega)]; rfl) | (rw [‹mbI S (addS (AL S) j v) i k = true›, decide_eq_false (show ¬ ¬ Ah S k = i by omega), ‹(LU (hrs i (addS (AL S) j v))).testBit (Ao S k) = true›, decide_eq_true (show Ab S k = 1 by omega)]; rfl) | (rw [‹mbI S (addS (AL S) j v) i k = true›, decide_eq_false (show ¬ ¬ Ah S k = i by omega), ‹(LU (hrs i (addS (AL S) j v))).testBit (Ao S k) = true›, decide_eq_false (show ¬ Ab S k = 1 by omega)]; rfl) | (rw [‹mbI S (addS (AL S) j v) i k = true›, decide_eq_false (show ¬ ¬ Ah S k = i by omega), ‹(LU (hrs i (addS (AL S) j v))).testBit (Ao S k) = false›, decide_eq_true (show Ab S k = 1 by omega)]; rfl) | (rw [‹mbI S (addS (AL S) j v) i k = true›, decide_eq_false (show ¬ ¬ Ah S k = i by omega), ‹(LU (hrs i (addS (AL S) j v))).testBit (Ao S k) = false›, decide_eq_false (show ¬ Ab S k = 1 by omega)]; rfl)
                        exact ihK (k + 1) _ _ _ (by omega) hW (by rw [e9]; exact lv_sub hl [2, 3, 4, 1, 5, 6, 0] rfl)
          exact LK (Ay S) 0 _ _ _ (by omega) hW (by rw [← e0]; exact lv_sub hl [2, 3, 4, 5, 6, 1, 0] rfl)
    exact LOOP 9 1 μ3 _ _ _ (by omega) hX_t3 (fun z hz => by rw [eμ3, va_up_ne _ _ (by omega)]; rw [ho_2 z (by omega)]) (by omega) hW (lv_sub hl [2, 3, 4, 1, 0] rfl)
  · skip
    have hcn : canA (AL S) j v = false := c_1
    refine lv_iconst (v := nI 0) hx hb dX5_mayBe_10 (by decide) ?_
    exact rt_ze F hr hlk hW (by unfold nB; rw [hcn]; rfl) ⟨(modX_tr hX (fun _ _ => trivial)), off_rf⟩ dX5_mayBe_11

set_option maxHeartbeats 4000000 in
set_option maxRecDepth 100000 in
theorem x_night {cx : CX} (hI : xI cx) (l : Launch) {μ : ME} {S : AS} {B : Nat} {Tr : (Nat → Int32) → Prop} (hN : 149 ≤ xN cx) (hX : modX cx μ S Tr) (hA : aok S B) (hMo : mok S) (hB : B < 800000) (w0 : Int32) : MT cx l yX5_night cX5_night 6 (some .int) 6 144 [.ref (xa cx 136), .int w0] μ (Ei cx (r_night S w0) (fun μ1 => modX cx μ1 S (fun _ => True) ∧ off 136 13 μ μ1)) := by
  refine mt_of hI (by decide) (Nat.le_of_ble_eq_true rfl) ?_
  intro p e s m below meth c ls F hr hlk hW hl
  have hx := F.1.1
  have hb := F.1.2.1
  have hts := F.1.2.2.2.2
  obtain ⟨rh, nx, f1, fn, frd, ft, fo, fa, frw, fh, fu, fb, fz, fkp, g136, g137, g138, g139, g140, g141, g142, g143, g144, g145, g146, g147, g148, hg, hv, ht, hnx, hrw, hse, hkp, hTr⟩ := id hX
  have hk := hA.2.1
  have hn6 := hk.1
  have hk4 := hk.2.2.2.1
  have hU := lok_U hk
  have hV0 := modX_V0 hX
  have hl : lv_has ls 6 [(0, .ref (xa cx 136)), (1, .int w0)] := hl
  refine lv_iload_n hx hb dX5_night_0 rfl (lv_at hl 1 rfl) ?_
  refine lv_i2l hx hb dX5_night_1 rfl ?_
  refine lv_lconst (v := lN 0) hx hb dX5_night_2 (by decide) ?_
  refine lv_lconst (v := lN 1) hx hb dX5_night_3 (by decide) ?_
  refine cl_ip (cl_runS (rest := []) F hW e_X5_49 (m_in hI l ((w0.toInt64)) ((lN 0)) ((lN 1))) ⟨Nat.le_of_ble_eq_true rfl, Nat.le_of_ble_eq_true rfl⟩ rfl rfl hl (Nat.le_of_ble_eq_true rfl) dX5_night_4 ⟨Nat.zero_le _, Nat.zero_le _⟩) hW (fun H locs hW => ?_)
  refine nv_top (y := ((b2 (halI w0)))) (congrArg b2 (inL_half _)) ?_
  refine nv_bne (tgt := 13) F dX5_night_7 (by decide) (fun c_1 => ?_) (fun c_1 => ?_)
  · skip
    have hwh := c_1
    refine lv_iconst (v := nI 0) hx hb dX5_night_13 (by decide) ?_
    refine lv_istore_n (lv' := [(2, .int (nI 0)), (0, .ref (xa cx 136)), (1, .int w0)]) hx hb dX5_night_14 rfl hl (by decide) rfl (fun ls hl => ?_)
    refine lv_bipush (v := (-9)) hx hb dX5_night_15 (by decide) ?_
    refine lv_istore_n (lv' := [(3, .int ((-9))), (2, .int (nI 0)), (0, .ref (xa cx 136)), (1, .int w0)]) hx hb dX5_night_17 rfl hl (by decide) rfl (fun ls hl => ?_)
    refine lv_iconst (v := nI 0) hx hb dX5_night_18 (by decide) ?_
    refine lv_istore (lv' := [(4, .int (nI 0)), (3, .int ((-9))), (2, .int (nI 0)), (0, .ref (xa cx 136)), (1, .int w0)]) hx hb dX5_night_19 hl (by decide) rfl (fun ls hl => ?_)
    have LA : ∀ (d9 i : Nat) (fw : Nat) (fr : Int32) (μLA : ME) (H : Heap) (locs : List Loc) (ls : Array Slot), i + d9 = Ln (AL S) → (modX cx μLA S (fun _ => True)) → (off 136 13 μ μLA) → (ntO S (Ln (AL S)) 0 (0, -9) = ntO S d9 i (fw, fr)) → (fw = 0 ↔ fr = -9) → (fw ≤ 9 * i) → St cx s μLA H locs → lv_has ls 6 [(0, .ref (xa cx 136)), (1, .int w0), (2, .int (nI fw)), (3, .int fr), (4, .int (nI i))] → W p l e { frames := 6, cells := 0, slots := 0, locals := 144 } s m [.ref (xa cx 136), .int w0].toArray below meth c H locs 0 0 (MQ below (Ei cx (r_night S w0) (fun μ1 => modX cx μ1 S (fun _ => True) ∧ off 136 13 μ μ1)) [.ref (xa cx 136), .int w0].toArray s 0 0 (xA cx)) (F0 m 21 ls []) := by
      intro d9
      induction d9 with
      | zero =>
        intro i fw fr μLA H locs ls hid hXiLA hoiLA hf hz hfw hW hl
        obtain ⟨rh_a, nx_a, f1_a, fn_a, frd_a, ft_a, fo_a, fa_a, frw_a, fh_a, fu_a, fb_a, fz_a, fkp_a, g136_a, g137_a, g138_a, g139_a, g140_a, g141_a, g142_a, g143_a, g144_a, g145_a, g146_a, g147_a, g148_a, hg_a, hv_a, ht_a, hnx_a, hrw_a, hse_a, hkp_a, hTr_a⟩ := id hXiLA
        have hV0_a := modX_V0 hXiLA
        refine lv_iload hx hb dX5_night_21 (lv_at hl 4 rfl) ?_
        refine lv_aload_n hx hb dX5_night_23 rfl (lv_at hl 0 rfl) ?_
        refine nv_get F hW (by omega) g136_a rfl iX5 0 (by decide) tw_629 rfl dX5_night_24 ?_
        refine nv_cge (tgt := 83) F (by omega) (by omega) dX5_night_27 (by decide) (fun c_2 => ?_) (fun c_2 => ?_)
        · skip
          refine lv_iload_n hx hb dX5_night_83 rfl (lv_at hl 1 rfl) ?_
          refine lv_if_ne (tgt := 91) hx hb dX5_night_84 (by decide) (fun c_3 => ?_) (fun c_3 => ?_)
          · skip
            refine lv_iload_n hx hb dX5_night_91 rfl (lv_at hl 3 rfl) ?_
            exact rt_ie F hr hlk hW (by unfold r_night; rw [hwh, if_pos rfl, hf]; first | (rw [if_pos (by assumption)]; rfl) | (rw [if_neg (by assumption)]; rfl)) ⟨(modX_tr hXiLA (fun _ _ => trivial)), (fun z hz => by rw [hoiLA z (by omega)])⟩ dX5_night_92
          · skip
            refine lv_iload_n hx hb dX5_night_87 rfl (lv_at hl 2 rfl) ?_
            refine lv_goto (tgt := 92) hx hb dX5_night_88 (by decide) ?_
            exact rt_ie F hr hlk hW (by unfold r_night; rw [hwh, if_pos rfl, hf]; first | (rw [if_pos (by assumption)]; rfl) | (rw [if_neg (by assumption)]; rfl)) ⟨(modX_tr hXiLA (fun _ _ => trivial)), (fun z hz => by rw [hoiLA z (by omega)])⟩ dX5_night_92
        · skip
          exact absurd c_2 (by omega)
      | succ d9 ihA =>
        intro i fw fr μLA H locs ls hid hXiLA hoiLA hf hz hfw hW hl
        obtain ⟨rh_a, nx_a, f1_a, fn_a, frd_a, ft_a, fo_a, fa_a, frw_a, fh_a, fu_a, fb_a, fz_a, fkp_a, g136_a, g137_a, g138_a, g139_a, g140_a, g141_a, g142_a, g143_a, g144_a, g145_a, g146_a, g147_a, g148_a, hg_a, hv_a, ht_a, hnx_a, hrw_a, hse_a, hkp_a, hTr_a⟩ := id hXiLA
        have hV0_a := modX_V0 hXiLA
        refine lv_iload hx hb dX5_night_21 (lv_at hl 4 rfl) ?_
        refine lv_aload_n hx hb dX5_night_23 rfl (lv_at hl 0 rfl) ?_
        refine nv_get F hW (by omega) g136_a rfl iX5 0 (by decide) tw_629 rfl dX5_night_24 ?_
        refine nv_cge (tgt := 83) F (by omega) (by omega) dX5_night_27 (by decide) (fun c_4 => ?_) (fun c_4 => ?_)
        · skip
          exact absurd c_4 (by omega)
        · skip
          refine lv_iconst (v := nI 1) hx hb dX5_night_30 (by decide) ?_
          refine lv_istore (lv' := [(5, .int (nI 1)), (0, .ref (xa cx 136)), (1, .int w0), (2, .int (nI fw)), (3, .int fr), (4, .int (nI i))]) hx hb dX5_night_31 hl (by decide) rfl (fun ls hl => ?_)
          have LB : ∀ (d v : Nat) (g : Nat) (gr : Int32) (μLB : ME) (H : Heap) (locs : List Loc) (ls : Array Slot), v + d = 10 → (modX cx μLB S (fun _ => True)) → (off 136 13 μ μLB) → (ntI S i 9 1 (fw, fr) = ntI S i d v (g, gr)) → (g = 0 ↔ gr = -9) → (1 ≤ v) → (g + 1 ≤ 9 * i + v) → St cx s μLB H locs → lv_has ls 6 [(0, .ref (xa cx 136)), (1, .int w0), (2, .int (nI g)), (3, .int gr), (4, .int (nI i)), (5, .int (nI v))] → W p l e { frames := 6, cells := 0, slots := 0, locals := 144 } s m [.ref (xa cx 136), .int w0].toArray below meth c H locs 0 0 (MQ below (Ei cx (r_night S w0) (fun μ1 => modX cx μ1 S (fun _ => True) ∧ off 136 13 μ μ1)) [.ref (xa cx 136), .int w0].toArray s 0 0 (xA cx)) (F0 m 33 ls []) := by
            intro d
            induction d with
            | zero =>
              intro v g gr μLB H locs ls hid hXiLB hoiLB hg2 hz2 hv1 hgv hW hl
              obtain ⟨rh_b, nx_b, f1_b, fn_b, frd_b, ft_b, fo_b, fa_b, frw_b, fh_b, fu_b, fb_b, fz_b, fkp_b, g136_b, g137_b, g138_b, g139_b, g140_b, g141_b, g142_b, g143_b, g144_b, g145_b, g146_b, g147_b, g148_b, hg_b, hv_b, ht_b, hnx_b, hrw_b, hse_b, hkp_b, hTr_b⟩ := id hXiLB
              have hV0_b := modX_V0 hXiLB
              refine lv_iload hx hb dX5_night_33 (lv_at hl 5 rfl) ?_
              refine lv_bipush (v := nI 9) hx hb dX5_night_35 (by decide) ?_
              refine nv_cgt (tgt := 77) F (by omega) (by omega) dX5_night_37 (by decide) (fun c_5 => ?_) (fun c_5 => ?_)
              · skip
                refine lv_iinc (v := ((nI (i + 1)))) (lv' := [(4, .int (nI (i + 1))), (0, .ref (xa cx 136)), (1, .int w0), (2, .int (nI g)), (3, .int gr), (5, .int (nI v))]) hx hb dX5_night_77 hl (k := 4) rfl (nI_add _ _) (by decide) rfl (fun ls hl => ?_)
                refine lv_goto (tgt := 21) hx hb dX5_night_80 (by decide) ?_
                exact ihA (i + 1) g gr μLB _ _ _ (by omega) (modX_tr hXiLB (fun _ _ => trivial)) (fun z hz => by rw [hoiLB z (by omega)]) (by rw [hf]; show ntO S d9 (i + 1) (ntI S i 9 1 (fw, fr)) = _; rw [hg2]; rfl) hz2 (by omega) hW (lv_sub hl [1, 2, 3, 4, 0] rfl)
              · skip
                exact absurd c_5 (by omega)
            | succ d ihB =>
              intro v g gr μLB H locs ls hid hXiLB hoiLB hg2 hz2 hv1 hgv hW hl
              obtain ⟨rh_b, nx_b, f1_b, fn_b, frd_b, ft_b, fo_b, fa_b, frw_b, fh_b, fu_b, fb_b, fz_b, fkp_b, g136_b, g137_b, g138_b, g139_b, g140_b, g141_b, g142_b, g143_b, g144_b, g145_b, g146_b, g147_b, g148_b, hg_b, hv_b, ht_b, hnx_b, hrw_b, hse_b, hkp_b, hTr_b⟩ := id hXiLB
              have hV0_b := modX_V0 hXiLB
              refine lv_iload hx hb dX5_night_33 (lv_at hl 5 rfl) ?_
              refine lv_bipush (v := nI 9) hx hb dX5_night_35 (by decide) ?_
              refine nv_cgt (tgt := 77) F (by omega) (by omega) dX5_night_37 (by decide) (fun c_6 => ?_) (fun c_6 => ?_)
              · skip
                exact absurd c_6 (by omega)
              · skip
                refine lv_aload_n hx hb dX5_night_40 rfl (lv_at hl 0 rfl) ?_
                refine lv_iload hx hb dX5_night_41 (lv_at hl 4 rfl) ?_
                refine lv_iload hx hb dX5_night_43 (lv_at hl 5 rfl) ?_
                refine cl_ie (cl_run (rest := []) F hW e_X5_178 (m_mayBe hI l hN hXiLB hA hMo hB i v (by omega) (by omega)) ⟨Nat.le_of_ble_eq_true rfl, Nat.le_of_ble_eq_true rfl⟩ (by omega) g136_b rfl rfl rfl hl (Nat.le_of_ble_eq_true rfl) dX5_night_45 ⟨Nat.zero_le _, Nat.zero_le _⟩) hW (fun μ7 H locs q_7 hW => ?_)
                obtain ⟨hX_7, ho_7⟩ := q_7
                obtain ⟨rh_7, nx_7, f1_7, fn_7, frd_7, ft_7, fo_7, fa_7, frw_7, fh_7, fu_7, fb_7, fz_7, fkp_7, g136_7, g137_7, g138_7, g139_7, g140_7, g141_7, g142_7, g143_7, g144_7, g145_7, g146_7, g147_7, g148_7, hg_7, hv_7, ht_7, hnx_7, hrw_7, hse_7, hkp_7, hTr_7⟩ := id hX_7
                have hV0_7 := modX_V0 hX_7
                refine nv_beq (tgt := 71) F dX5_night_48 (by decide) (fun c_8 => ?_) (fun c_8 => ?_)
                · skip
                  refine lv_iinc (v := ((nI (v + 1)))) (lv' := [(5, .int (nI (v + 1))), (0, .ref (xa cx 136)), (1, .int w0), (2, .int (nI g)), (3, .int gr), (4, .int (nI i))]) hx hb dX5_night_71 hl (k := 5) rfl (nI_add _ _) (by decide) rfl (fun ls hl => ?_)
                  refine lv_goto (tgt := 33) hx hb dX5_night_74 (by decide) ?_
                  exact ihB (v + 1) g gr μ7 _ _ _ (by omega) (modX_tr hX_7 (fun _ _ => trivial)) (fun z hz => by rw [ho_7 z (by omega)]; rw [hoiLB z (by omega)]) (by rw [hg2]; show ntI S i d (v + 1) (if nB S i v = true then _ else (g, gr)) = _; rw [if_neg (by rw [‹nB S i v = false›]; decide)]) hz2 (by omega) (by omega) hW (lv_sub hl [1, 2, 3, 4, 5, 0] rfl)
                · skip
                  refine lv_iload_n hx hb dX5_night_51 rfl (lv_at hl 2 rfl) ?_
                  refine nv_zne (tgt := 66) F (by omega) dX5_night_52 (by decide) (fun c_9 => ?_) (fun c_9 => ?_)
                  · skip
                    refine lv_iload_n hx hb dX5_night_66 rfl (lv_at hl 3 rfl) ?_
                    refine lv_istore_n (lv' := [(3, .int gr), (0, .ref (xa cx 136)), (1, .int w0), (2, .int (nI g)), (4, .int (nI i)), (5, .int (nI v))]) hx hb dX5_night_67 rfl hl (by decide) rfl (fun ls hl => ?_)
                    refine lv_iinc (v := ((nI (g + 1)))) (lv' := [(2, .int (nI (g + 1))), (3, .int gr), (0, .ref (xa cx 136)), (1, .int w0), (4, .int (nI i)), (5, .int (nI v))]) hx hb dX5_night_68 hl (k := 3) rfl (nI_add _ _) (by decide) rfl (fun ls hl => ?_)
                    refine lv_iinc (v := ((nI (v + 1)))) (lv' := [(5, .int (nI (v + 1))), (2, .int (nI (g + 1))), (3, .int gr), (0, .ref (xa cx 136)), (1, .int w0), (4, .int (nI i))]) hx hb dX5_night_71 hl (k := 5) rfl (nI_add _ _) (by decide) rfl (fun ls hl => ?_)
                    refine lv_goto (tgt := 33) hx hb dX5_night_74 (by decide) ?_
                    exact ihB (v + 1) (g + 1) gr μ7 _ _ _ (by omega) (modX_tr hX_7 (fun _ _ => trivial)) (fun z hz => by rw [ho_7 z (by omega)]; rw [hoiLB z (by omega)]) (by rw [hg2]; show ntI S i d (v + 1) (if nB S i v = true then (g + 1, if gr = -9 then nI (10 * i + v) else gr) else _) = _; rw [if_pos (by assumption), if_neg (fun q => absurd (hz2.mpr q) (by omega))]) ⟨fun q => by omega, fun q => absurd (hz2.mpr q) (by omega)⟩ (by omega) (by omega) hW (lv_sub hl [3, 4, 1, 2, 5, 0] rfl)
                  · skip
                    refine lv_bipush (v := nI 10) hx hb dX5_night_55 (by decide) ?_
                    refine lv_iload hx hb dX5_night_57 (lv_at hl 4 rfl) ?_
                    refine nv_mul F dX5_night_59 ?_
                    refine lv_iload hx hb dX5_night_60 (lv_at hl 5 rfl) ?_
                    refine nv_add F dX5_night_62 ?_
                    refine lv_goto (tgt := 67) hx hb dX5_night_63 (by decide) ?_
                    refine lv_istore_n (lv' := [(3, .int (nI ((10 * i) + v))), (0, .ref (xa cx 136)), (1, .int w0), (2, .int (nI g)), (4, .int (nI i)), (5, .int (nI v))]) hx hb dX5_night_67 rfl hl (by decide) rfl (fun ls hl => ?_)
                    refine lv_iinc (v := ((nI (g + 1)))) (lv' := [(2, .int (nI (g + 1))), (3, .int (nI ((10 * i) + v))), (0, .ref (xa cx 136)), (1, .int w0), (4, .int (nI i)), (5, .int (nI v))]) hx hb dX5_night_68 hl (k := 3) rfl (nI_add _ _) (by decide) rfl (fun ls hl => ?_)
                    refine lv_iinc (v := ((nI (v + 1)))) (lv' := [(5, .int (nI (v + 1))), (2, .int (nI (g + 1))), (3, .int (nI ((10 * i) + v))), (0, .ref (xa cx 136)), (1, .int w0), (4, .int (nI i))]) hx hb dX5_night_71 hl (k := 5) rfl (nI_add _ _) (by decide) rfl (fun ls hl => ?_)
                    refine lv_goto (tgt := 33) hx hb dX5_night_74 (by decide) ?_
                    exact ihB (v + 1) (g + 1) ((nI ((10 * i) + v))) μ7 _ _ _ (by omega) (modX_tr hX_7 (fun _ _ => trivial)) (fun z hz => by rw [ho_7 z (by omega)]; rw [hoiLB z (by omega)]) (by rw [hg2]; show ntI S i d (v + 1) (if nB S i v = true then (g + 1, if gr = -9 then nI (10 * i + v) else gr) else _) = _; rw [if_pos (by assumption), if_pos (hz2.mp (by omega))]) ⟨fun q => by omega, fun q => absurd q (nI_ne (by omega) (by decide))⟩ (by omega) (by omega) hW (lv_sub hl [3, 4, 1, 2, 5, 0] rfl)
          exact LB 9 1 fw fr μLA _ _ _ (by omega) (modX_tr hXiLA (fun _ _ => trivial)) (fun z hz => by rw [hoiLA z (by omega)]) rfl hz (by omega) (by omega) hW (lv_sub hl [1, 2, 3, 4, 5, 0] rfl)
    exact LA (Ln (AL S)) 0 0 (-9) μ _ _ _ (by omega) (modX_tr hX (fun _ _ => trivial)) off_rf rfl ⟨fun _ => rfl, fun _ => rfl⟩ (by omega) hW (lv_sub hl [3, 4, 2, 1, 0] rfl)
  · skip
    refine lv_bipush (v := (-2)) hx hb dX5_night_10 (by decide) ?_
    exact rt_ie F hr hlk hW (by unfold r_night; rw [‹halI w0 = false›]; rfl) ⟨(modX_tr hX (fun _ _ => trivial)), off_rf⟩ dX5_night_12
