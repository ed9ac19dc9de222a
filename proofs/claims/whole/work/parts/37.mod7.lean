theorem md_ok {c : Nat} (h : ¬ mdeI c = -9) : c = 108 ∨ c = 114 ∨ c = 109 := by
  unfold mdeI at h
  by_cases a : c = 108
  · exact Or.inl a
  · by_cases b : c = 114
    · exact Or.inr (Or.inl b)
    · by_cases d : c = 109
      · exact Or.inr (Or.inr d)
      · rw [if_neg a, if_neg b, if_neg d] at h
        exact absurd rfl h
theorem md_no {c : Nat} (h : mdeI c = -9) : ¬ (c = 108 ∨ c = 114 ∨ c = 109) := by
  intro q
  rcases q with rfl | rfl | rfl
  · exact absurd h (by decide)
  · exact absurd h (by decide)
  · exact absurd h (by decide)
theorem md_dn {c : Nat} (h : ¬ mdeI c = -9) : mdeI c = nI (deedN c) := by
  rcases md_ok h with rfl | rfl | rfl <;> rfl
def rdv (t : Nat → Nat) (h c : Nat) : Nat := if c = 3 then deedN (t (2 + 5 * h + c)) else t (2 + 5 * h + c) - 48
theorem fit31 {c k : Nat} (h : fitB c k = true) : k < 31 := by
  rcases Nat.lt_or_ge k 31 with q | q
  · exact q
  · unfold fitB at h
    rw [if_neg (by omega), if_pos q] at h
    cases h
theorem rd_step {t : Nat → Nat} {q : Nat → Int32} {i : Nat} {x : Int32} (h9 : ∀ h k, k < 4 → 2 + 5 * h + k < i → q (4 * h + k) = nI (rdv t h k)) (hr : 0 < (i - 1) % 5) (hx : x = nI (rdv t ((i - 1) / 5) ((i - 1) % 5 - 1))) : ∀ h k, k < 4 → 2 + 5 * h + k < i + 1 → upd q (4 * ((i - 1) / 5) + (i - 1) % 5 - 1) x (4 * h + k) = nI (rdv t h k) := by
  intro h k hk hi
  by_cases e : 2 + 5 * h + k = i
  · have e1 : (i - 1) / 5 = h := by omega
    have e2 : (i - 1) % 5 = k + 1 := by omega
    rw [upd_eq (by omega), hx, e1, e2]
    rfl
  · rw [upd_ne (by omega)]
    exact h9 h k hk (by omega)

def rdOk (cx : CX) (μ1 : ME) (S : AS) : Prop := faultI (At S) (An S) = -9 → (∃ nx : Nat, nx < 14 ∧ μ1 136 = .inr (5, [.int (nI (Ln (AL S))), .ref (xa cx 137), .ref (xa cx 138), .ref (xa cx 139), .int (nI (An S / 5)), .ref (xa cx 140), .int (nI (An S)), .ref (xa cx 141), .ref (xa cx 142), .int (nI (Az S)), .int (nI nx), .ref (xa cx 143), .int (nI (Ay S)), .ref (xa cx 144), .ref (xa cx 145), .ref (xa cx 146), .long (Ad S), .ref (xa cx 147), .ref (xa cx 148)])) ∧ ∃ q : Nat → Int32, μ1 139 = .inl (xT cx 0, 24, .inl q) ∧ ∀ h k, k < 4 → h < An S / 5 → q (4 * h + k) = nI (rdv (At S) h k)

set_option maxHeartbeats 4000000 in
set_option maxRecDepth 100000 in
theorem m_readText {cx : CX} (hI : xI cx) (l : Launch) {μ : ME} {S : AS} {B : Nat} {Tr : (Nat → Int32) → Prop} (hN : 149 ≤ xN cx) (hX : modX cx μ S Tr) (hA : aok S B) (hMo : mok S) (hB : B < 800000) : MT cx l yX5_readText cX5_readText 5 (some .int) 1 25 [.ref (xa cx 136)] μ (Ei cx (faultI (At S) (An S)) (fun μ1 => modX cx μ1 S Tr ∧ off 136 13 μ μ1 ∧ rdOk cx μ1 S)) := by
  refine mt_of hI (by decide) (Nat.le_of_ble_eq_true rfl) ?_
  intro p e s m below meth c ls F hr hlk hW hl
  have hx := F.1.1
  have hb := F.1.2.1
  have hts := F.1.2.2.2.2
  obtain ⟨rh, nx, f1, fn, frd, ft, fo, fa, frw, fh, fu, fb, fz, fkp, g136, g137, g138, g139, g140, g141, g142, g143, g144, g145, g146, g147, g148, hg, hv, ht, hnx, hrw, hse, hkp, hTr⟩ := id hX
  have hk := hA.2.1
  have hn6 := hk.1
  have hk4 := hk.2.2.2.1
  have hU := lok_U hk
  have hV0 := modX_V0 hX
  have hl : lv_has ls 5 [(0, .ref (xa cx 136))] := hl
  refine lv_aload_n hx hb dX5_readText_0 rfl (lv_at hl 0 rfl) ?_
  refine lv_iconst (v := nI 0) hx hb dX5_readText_1 (by decide) ?_
  refine nv_put F hW (by omega) g136 rfl iX5 tyX5 tyX5_ok nmX5 4 (by decide) tw_633 rfl rfl rfl (Nat.le_of_ble_eq_true rfl) dX5_readText_2 (fun H locs hW => ?_)
  obtain ⟨μ1, eμ1⟩ : ∃ zz9 : ME, zz9 = va_up μ 136 (.inr (5, [.int (nI (Ln (AL S))), .ref (xa cx 137), .ref (xa cx 138), .ref (xa cx 139), .int (nI 0), .ref (xa cx 140), .int (nI (An S)), .ref (xa cx 141), .ref (xa cx 142), .int (nI (Az S)), .int (nI nx), .ref (xa cx 143), .int (nI (Ay S)), .ref (xa cx 144), .ref (xa cx 145), .ref (xa cx 146), .long (Ad S), .ref (xa cx 147), .ref (xa cx 148)])) := ⟨_, rfl⟩
  have hW : St cx s μ1 H locs := by rw [eμ1]; exact hW
  have h136_1 : μ1 136 = .inr (5, [.int (nI (Ln (AL S))), .ref (xa cx 137), .ref (xa cx 138), .ref (xa cx 139), .int (nI 0), .ref (xa cx 140), .int (nI (An S)), .ref (xa cx 141), .ref (xa cx 142), .int (nI (Az S)), .int (nI nx), .ref (xa cx 143), .int (nI (Ay S)), .ref (xa cx 144), .ref (xa cx 145), .ref (xa cx 146), .long (Ad S), .ref (xa cx 147), .ref (xa cx 148)]) := by rw [eμ1, va_up_self]
  have h137_1 := (congrFun eμ1 137).trans ((va_up_ne _ _ (by omega)).trans g137)
  have h138_1 := (congrFun eμ1 138).trans ((va_up_ne _ _ (by omega)).trans g138)
  have h139_1 := (congrFun eμ1 139).trans ((va_up_ne _ _ (by omega)).trans g139)
  have h140_1 := (congrFun eμ1 140).trans ((va_up_ne _ _ (by omega)).trans g140)
  have h141_1 := (congrFun eμ1 141).trans ((va_up_ne _ _ (by omega)).trans g141)
  have h142_1 := (congrFun eμ1 142).trans ((va_up_ne _ _ (by omega)).trans g142)
  have h143_1 := (congrFun eμ1 143).trans ((va_up_ne _ _ (by omega)).trans g143)
  have h144_1 := (congrFun eμ1 144).trans ((va_up_ne _ _ (by omega)).trans g144)
  have h145_1 := (congrFun eμ1 145).trans ((va_up_ne _ _ (by omega)).trans g145)
  have h146_1 := (congrFun eμ1 146).trans ((va_up_ne _ _ (by omega)).trans g146)
  have h147_1 := (congrFun eμ1 147).trans ((va_up_ne _ _ (by omega)).trans g147)
  have h148_1 := (congrFun eμ1 148).trans ((va_up_ne _ _ (by omega)).trans g148)
  refine lv_aload_n hx hb dX5_readText_5 rfl (lv_at hl 0 rfl) ?_
  refine nv_get F hW (by omega) h136_1 rfl iX5 6 (by decide) tw_635 rfl dX5_readText_6 ?_
  refine nv_zeq (tgt := 23) F (by have := hA.1.1; omega) dX5_readText_9 (by decide) (fun c_2 => ?_) (fun c_2 => ?_)
  · skip
    refine lv_iconst (v := nI 0) hx hb dX5_readText_23 (by decide) ?_
    have eF : faultI (At S) (An S) = nI 0 := by
      unfold faultI
      by_cases h0 : An S = 0
      · rw [h0]; rfl
      · rw [show An S = (An S - 1) + 1 by omega]
        show (match (if fitB (At S 0) 0 = true then ff (At S) (An S - 1) 1 else some 0) with | some p => nI p | none => _) = _
        rw [if_neg (by unfold fitB; rw [if_pos rfl, decide_eq_true_eq]; omega)]
    exact rt_ie F hr hlk hW eF.symm ⟨⟨_, nx, f1, fn, frd, ft, fo, fa, frw, fh, fu, fb, fz, fkp, h136_1, h137_1, h138_1, h139_1, h140_1, h141_1, h142_1, h143_1, h144_1, h145_1, h146_1, h147_1, h148_1, hg, hv, ht, hnx, hrw, hse, hkp, hTr⟩, (fun z hz => by rw [eμ1, va_up_ne _ _ (by omega)]), fun z => absurd (eF.symm.trans z) (by decide)⟩ dX5_readText_24
  · skip
    refine lv_aload_n hx hb dX5_readText_12 rfl (lv_at hl 0 rfl) ?_
    refine nv_get F hW (by omega) h136_1 rfl iX5 5 (by decide) tw_634 rfl dX5_readText_13 ?_
    refine lv_iconst (v := nI 0) hx hb dX5_readText_16 (by decide) ?_
    refine nv_ialdN (x := ((nI (At S 0)))) F hW (by omega) h140_1 (by omega) (by decide) (ht 0 (by omega)) dX5_readText_17 ?_
    refine lv_bipush (v := nI 65) hx hb dX5_readText_18 (by decide) ?_
    refine nv_ceq (tgt := 25) F (by have := hA.1.2 0 (by omega); omega) (by omega) dX5_readText_20 (by decide) (fun c_3 => ?_) (fun c_3 => ?_)
    · skip
      refine lv_iconst (v := nI 1) hx hb dX5_readText_25 (by decide) ?_
      refine lv_istore_n (lv' := [(1, .int (nI 1)), (0, .ref (xa cx 136))]) hx hb dX5_readText_26 rfl hl (by decide) rfl (fun ls hl => ?_)
      have LOOP : ∀ (d i : Nat) (q : Nat → Int32) (μ1 : ME) (H : Heap) (locs : List Loc) (ls : Array Slot), i + d = An S → (1 ≤ i) → (μ1 136 = .inr (5, [.int (nI (Ln (AL S))), .ref (xa cx 137), .ref (xa cx 138), .ref (xa cx 139), .int (nI ((i - 1) / 5)), .ref (xa cx 140), .int (nI (An S)), .ref (xa cx 141), .ref (xa cx 142), .int (nI (Az S)), .int (nI nx), .ref (xa cx 143), .int (nI (Ay S)), .ref (xa cx 144), .ref (xa cx 145), .ref (xa cx 146), .long (Ad S), .ref (xa cx 147), .ref (xa cx 148)])) → (μ1 139 = .inl (xT cx 0, 24, .inl q)) → (∀ z, ¬ z = 136 → ¬ z = 139 → μ1 z = μ z) → (ff (At S) (An S) 0 = ff (At S) d i) → (∀ h k, k < 4 → 2 + 5 * h + k < i → q (4 * h + k) = nI (rdv (At S) h k)) → (∀ p9, p9 < i → fitB (At S p9) p9 = true) → St cx s μ1 H locs → lv_has ls 5 [(0, .ref (xa cx 136)), (1, .int (nI i))] → W p l e { frames := 1, cells := 0, slots := 0, locals := 25 } s m [.ref (xa cx 136)].toArray below meth c H locs 0 0 (MQ below (Ei cx (faultI (At S) (An S)) (fun μ1 => modX cx μ1 S Tr ∧ off 136 13 μ μ1 ∧ rdOk cx μ1 S)) [.ref (xa cx 136)].toArray s 0 0 (xA cx)) (F0 m 27 ls []) := by
        intro d
        induction d with
        | zero =>
          intro i q μ1 H locs ls hid hi1 k136 hq hqo hf hrd hall hW hl
          have h64 := hA.1.1
          have hb31 := fit31 (hall (i - 1) (by omega))
          have k137 := (hqo 137 (by omega) (by omega)).trans g137
          have k138 := (hqo 138 (by omega) (by omega)).trans g138
          have k140 := (hqo 140 (by omega) (by omega)).trans g140
          have k141 := (hqo 141 (by omega) (by omega)).trans g141
          have k142 := (hqo 142 (by omega) (by omega)).trans g142
          have k143 := (hqo 143 (by omega) (by omega)).trans g143
          have k144 := (hqo 144 (by omega) (by omega)).trans g144
          have k145 := (hqo 145 (by omega) (by omega)).trans g145
          have k146 := (hqo 146 (by omega) (by omega)).trans g146
          have k147 := (hqo 147 (by omega) (by omega)).trans g147
          have k148 := (hqo 148 (by omega) (by omega)).trans g148
          refine lv_iload_n hx hb dX5_readText_27 rfl (lv_at hl 1 rfl) ?_
          refine lv_aload_n hx hb dX5_readText_28 rfl (lv_at hl 0 rfl) ?_
          refine nv_get F hW (by omega) k136 rfl iX5 6 (by decide) tw_635 rfl dX5_readText_29 ?_
          refine nv_cge (tgt := 196) F (by omega) (by have := hA.1.1; omega) dX5_readText_32 (by decide) (fun c_4 => ?_) (fun c_4 => ?_)
          · skip
            refine lv_aload_n hx hb dX5_readText_196 rfl (lv_at hl 0 rfl) ?_
            refine nv_get F hW (by omega) k136 rfl iX5 6 (by decide) tw_635 rfl dX5_readText_197 ?_
            refine lv_iconst (v := nI 1) hx hb dX5_readText_200 (by decide) ?_
            refine nv_sub F (by omega) dX5_readText_201 ?_
            refine lv_iconst (v := nI 5) hx hb dX5_readText_202 (by decide) ?_
            refine nv_rem F (by omega) (by omega) (by omega) dX5_readText_203 ?_
            refine nv_zne (tgt := 212) F (by omega) dX5_readText_204 (by decide) (fun c_5 => ?_) (fun c_5 => ?_)
            · skip
              refine lv_aload_n hx hb dX5_readText_212 rfl (lv_at hl 0 rfl) ?_
              refine nv_get F hW (by omega) k136 rfl iX5 6 (by decide) tw_635 rfl dX5_readText_213 ?_
              have eF : faultI (At S) (An S) = (if An S % 5 = 1 then (-9 : Int32) else nI (An S)) := by unfold faultI; rw [hf]; rfl
              rw [if_neg (by omega)] at eF
              exact rt_ie F hr hlk hW eF.symm ⟨⟨_, nx, f1, fn, q, ft, fo, fa, frw, fh, fu, fb, fz, fkp, k136, k137, k138, hq, k140, k141, k142, k143, k144, k145, k146, k147, k148, hg, hv, ht, hnx, hrw, hse, hkp, hTr⟩, (fun z hz => by rw [hqo z (by omega) (by omega)]), fun z => absurd (eF.symm.trans z) (nI_ne (by omega) (by decide))⟩ dX5_readText_216
            · skip
              refine lv_bipush (v := (-9)) hx hb dX5_readText_207 (by decide) ?_
              refine lv_goto (tgt := 216) hx hb dX5_readText_209 (by decide) ?_
              have eF : faultI (At S) (An S) = (if An S % 5 = 1 then (-9 : Int32) else nI (An S)) := by unfold faultI; rw [hf]; rfl
              rw [if_pos (by omega)] at eF
              have eh : (i - 1) / 5 = An S / 5 := by omega
              exact rt_ie F hr hlk hW eF.symm ⟨⟨_, nx, f1, fn, q, ft, fo, fa, frw, fh, fu, fb, fz, fkp, k136, k137, k138, hq, k140, k141, k142, k143, k144, k145, k146, k147, k148, hg, hv, ht, hnx, hrw, hse, hkp, hTr⟩, (fun z hz => by rw [hqo z (by omega) (by omega)]), fun _ => ⟨⟨nx, hnx, by rw [← eh]; exact k136⟩, q, hq, fun h k h1 h2 => hrd h k h1 (by omega)⟩⟩ dX5_readText_216
          · skip
            exact absurd c_4 (by omega)
        | succ d ih =>
          intro i q μ1 H locs ls hid hi1 k136 hq hqo hf hrd hall hW hl
          have h64 := hA.1.1
          have hb31 := fit31 (hall (i - 1) (by omega))
          have k137 := (hqo 137 (by omega) (by omega)).trans g137
          have k138 := (hqo 138 (by omega) (by omega)).trans g138
          have k140 := (hqo 140 (by omega) (by omega)).trans g140
          have k141 := (hqo 141 (by omega) (by omega)).trans g141
          have k142 := (hqo 142 (by omega) (by omega)).trans g142
          have k143 := (hqo 143 (by omega) (by omega)).trans g143
          have k144 := (hqo 144 (by omega) (by omega)).trans g144
          have k145 := (hqo 145 (by omega) (by omega)).trans g145
          have k146 := (hqo 146 (by omega) (by omega)).trans g146
          have k147 := (hqo 147 (by omega) (by omega)).trans g147
          have k148 := (hqo 148 (by omega) (by omega)).trans g148
          refine lv_iload_n hx hb dX5_readText_27 rfl (lv_at hl 1 rfl) ?_
          refine lv_aload_n hx hb dX5_readText_28 rfl (lv_at hl 0 rfl) ?_
          refine nv_get F hW (by omega) k136 rfl iX5 6 (by decide) tw_635 rfl dX5_readText_29 ?_
          refine nv_cge (tgt := 196) F (by omega) (by have := hA.1.1; omega) dX5_readText_32 (by decide) (fun c_6 => ?_) (fun c_6 => ?_)
          · skip
            exact absurd c_6 (by omega)
          · skip
            refine lv_iload_n hx hb dX5_readText_35 rfl (lv_at hl 1 rfl) ?_
            refine lv_iconst (v := nI 1) hx hb dX5_readText_36 (by decide) ?_
            refine nv_sub F (by omega) dX5_readText_37 ?_
            refine lv_iconst (v := nI 5) hx hb dX5_readText_38 (by decide) ?_
            refine nv_rem F (by omega) (by omega) (by omega) dX5_readText_39 ?_
            refine lv_istore_n (lv' := [(2, .int (nI ((i - 1) % 5))), (0, .ref (xa cx 136)), (1, .int (nI i))]) hx hb dX5_readText_40 rfl hl (by decide) rfl (fun ls hl => ?_)
            refine lv_aload_n hx hb dX5_readText_41 rfl (lv_at hl 1 rfl) ?_
            refine nv_get F hW (by omega) k136 rfl iX5 5 (by decide) tw_634 rfl dX5_readText_42 ?_
            refine lv_iload_n hx hb dX5_readText_45 rfl (lv_at hl 2 rfl) ?_
            refine nv_ialdN (x := ((nI (At S i)))) F hW (by omega) k140 (by have := hA.1.1; omega) (by decide) (ht i (by omega)) dX5_readText_46 ?_
            refine lv_istore_n (lv' := [(3, .int (nI (At S i))), (2, .int (nI ((i - 1) % 5))), (0, .ref (xa cx 136)), (1, .int (nI i))]) hx hb dX5_readText_47 rfl hl (by decide) rfl (fun ls hl => ?_)
            refine lv_iload_n hx hb dX5_readText_48 rfl (lv_at hl 1 rfl) ?_
            refine nv_zne (tgt := 75) F (by omega) dX5_readText_49 (by decide) (fun c_7 => ?_) (fun c_7 => ?_)
            · skip
              refine lv_iload_n hx hb dX5_readText_75 rfl (lv_at hl 1 rfl) ?_
              refine lv_iconst (v := nI 1) hx hb dX5_readText_76 (by decide) ?_
              refine nv_cne (tgt := 94) F (by omega) (by omega) dX5_readText_77 (by decide) (fun c_8 => ?_) (fun c_8 => ?_)
              · skip
                refine lv_iload_n hx hb dX5_readText_94 rfl (lv_at hl 1 rfl) ?_
                refine lv_iconst (v := nI 4) hx hb dX5_readText_95 (by decide) ?_
                refine nv_cge (tgt := 113) F (by omega) (by omega) dX5_readText_96 (by decide) (fun c_9 => ?_) (fun c_9 => ?_)
                · skip
                  refine lv_iload_n hx hb dX5_readText_113 rfl (lv_at hl 0 rfl) ?_
                  refine cl_ip (cl_runS (rest := []) F hW e_X5_66 (m_deedOf hI l (At S i) (by have := hA.1.2 i (by omega); omega)) ⟨Nat.le_of_ble_eq_true rfl, Nat.le_of_ble_eq_true rfl⟩ rfl rfl hl (Nat.le_of_ble_eq_true rfl) dX5_readText_114 ⟨Nat.zero_le _, Nat.zero_le _⟩) hW (fun H locs hW => ?_)
                  refine lv_bipush (v := (-9)) hx hb dX5_readText_117 (by decide) ?_
                  refine lv_icmp_eq (tgt := 126) hx hb dX5_readText_119 (by decide) (fun c_10 => ?_) (fun c_10 => ?_)
                  · skip
                    have hm9 := md_no c_10
                    refine lv_iconst (v := nI 0) hx hb dX5_readText_126 (by decide) ?_
                    refine lv_istore (lv' := [(4, .int (nI 0)), (3, .int (nI (At S i))), (2, .int (nI ((i - 1) % 5))), (0, .ref (xa cx 136)), (1, .int (nI i))]) hx hb dX5_readText_127 hl (by decide) rfl (fun ls hl => ?_)
                    refine lv_iload hx hb dX5_readText_129 (lv_at hl 0 rfl) ?_
                    refine nv_zne (tgt := 136) F (by decide) dX5_readText_131 (by decide) (fun c_11 => ?_) (fun c_11 => ?_)
                    · skip
                      exact absurd c_11 (by decide)
                    · skip
                      have hfit : fitB (At S i) i = false := by
                        unfold fitB
                        first
                          | (rw [if_pos (by omega)]; first | exact decide_eq_true (by omega) | exact decide_eq_false (by omega))
                          | (rw [if_neg (by omega), if_pos (by omega)]; done)
                          | (rw [if_neg (by omega), if_neg (by omega), if_pos (by omega)]; first | exact decide_eq_true (by omega) | exact decide_eq_false (by omega))
                          | (rw [if_neg (by omega), if_neg (by omega), if_neg (by omega), if_pos (by omega)]; first | exact decide_eq_true (by omega) | exact decide_eq_false (by omega))
                          | (rw [if_neg (by omega), if_neg (by omega), if_neg (by omega), if_neg (by omega), if_pos (by omega)]; first | exact decide_eq_true (by omega) | exact decide_eq_false (by omega))
                          | (rw [if_neg (by omega), if_neg (by omega), if_neg (by omega), if_neg (by omega), if_neg (by omega)]; first | exact decide_eq_true (by omega) | exact decide_eq_false (by omega))
                          | (rw [if_neg (by omega)]; rcases Nat.lt_or_ge i 31 with h31 | h31; (rw [if_neg (by omega), if_pos (by omega)]; exact decide_eq_false (by omega)); rw [if_pos h31])
                      refine lv_iload_n hx hb dX5_readText_134 rfl (lv_at hl 4 rfl) ?_
                      have eF : faultI (At S) (An S) = nI i := by unfold faultI; rw [hf]; show (match (if fitB (At S i) i = true then ff (At S) d (i + 1) else some i) with | some p => nI p | none => _) = nI i; rw [hfit]; rfl
                      exact rt_ie F hr hlk hW eF.symm ⟨⟨_, nx, f1, fn, q, ft, fo, fa, frw, fh, fu, fb, fz, fkp, k136, k137, k138, hq, k140, k141, k142, k143, k144, k145, k146, k147, k148, hg, hv, ht, hnx, hrw, hse, hkp, hTr⟩, (fun z hz => by rw [hqo z (by omega) (by omega)]), fun z => absurd (eF.symm.trans z) (nI_ne (by omega) (by decide))⟩ dX5_readText_135
                  · skip
                    have hm9 := md_ok c_10
                    have hm8 := c_10
                    refine lv_iconst (v := nI 1) hx hb dX5_readText_122 (by decide) ?_
                    refine lv_goto (tgt := 127) hx hb dX5_readText_123 (by decide) ?_
                    refine lv_istore (lv' := [(4, .int (nI 1)), (3, .int (nI (At S i))), (2, .int (nI ((i - 1) % 5))), (0, .ref (xa cx 136)), (1, .int (nI i))]) hx hb dX5_readText_127 hl (by decide) rfl (fun ls hl => ?_)
                    refine lv_iload hx hb dX5_readText_129 (lv_at hl 0 rfl) ?_
                    refine nv_zne (tgt := 136) F (by decide) dX5_readText_131 (by decide) (fun c_12 => ?_) (fun c_12 => ?_)
                    · skip
                      have hfit : fitB (At S i) i = true := by
                        unfold fitB
                        first
                          | (rw [if_pos (by omega)]; first | exact decide_eq_true (by omega) | exact decide_eq_false (by omega))
                          | (rw [if_neg (by omega), if_pos (by omega)]; done)
                          | (rw [if_neg (by omega), if_neg (by omega), if_pos (by omega)]; first | exact decide_eq_true (by omega) | exact decide_eq_false (by omega))
                          | (rw [if_neg (by omega), if_neg (by omega), if_neg (by omega), if_pos (by omega)]; first | exact decide_eq_true (by omega) | exact decide_eq_false (by omega))
                          | (rw [if_neg (by omega), if_neg (by omega), if_neg (by omega), if_neg (by omega), if_pos (by omega)]; first | exact decide_eq_true (by omega) | exact decide_eq_false (by omega))
                          | (rw [if_neg (by omega), if_neg (by omega), if_neg (by omega), if_neg (by omega), if_neg (by omega)]; first | exact decide_eq_true (by omega) | exact decide_eq_false (by omega))
                          | (rw [if_neg (by omega)]; rcases Nat.lt_or_ge i 31 with h31 | h31; (rw [if_neg (by omega), if_pos (by omega)]; exact decide_eq_false (by omega)); rw [if_pos h31])
                      have hi31 := fit31 hfit
                      refine lv_iload_n hx hb dX5_readText_136 rfl (lv_at hl 2 rfl) ?_
                      refine nv_zle (tgt := 171) F (by omega) dX5_readText_137 (by decide) (fun c_13 => ?_) (fun c_13 => ?_)
                      · skip
                        refine lv_aload_n hx hb dX5_readText_171 rfl (lv_at hl 3 rfl) ?_
                        refine lv_dup hx hb dX5_readText_172 rfl ?_
                        refine nv_get F hW (by omega) k136 rfl iX5 4 (by decide) tw_633 rfl dX5_readText_173 ?_
                        refine lv_iload_n hx hb dX5_readText_176 rfl (lv_at hl 2 rfl) ?_
                        refine lv_iconst (v := nI 4) hx hb dX5_readText_177 (by decide) ?_
                        refine nv_cne (tgt := 185) F (by omega) (by omega) dX5_readText_178 (by decide) (fun c_14 => ?_) (fun c_14 => ?_)
                        · skip
                          refine lv_iconst (v := nI 0) hx hb dX5_readText_185 (by decide) ?_
                          refine nv_add F dX5_readText_186 ?_
                          refine nv_put F hW (by omega) k136 rfl iX5 tyX5 tyX5_ok nmX5 4 (by decide) tw_633 rfl rfl rfl (Nat.le_of_ble_eq_true rfl) dX5_readText_187 (fun H locs hW => ?_)
                          obtain ⟨μ15, eμ15⟩ : ∃ zz9 : ME, zz9 = va_up μ1 136 (.inr (5, [.int (nI (Ln (AL S))), .ref (xa cx 137), .ref (xa cx 138), .ref (xa cx 139), .int (nI (((i - 1) / 5) + 0)), .ref (xa cx 140), .int (nI (An S)), .ref (xa cx 141), .ref (xa cx 142), .int (nI (Az S)), .int (nI nx), .ref (xa cx 143), .int (nI (Ay S)), .ref (xa cx 144), .ref (xa cx 145), .ref (xa cx 146), .long (Ad S), .ref (xa cx 147), .ref (xa cx 148)])) := ⟨_, rfl⟩
                          have hW : St cx s μ15 H locs := by rw [eμ15]; exact hW
                          have h136_15 : μ15 136 = .inr (5, [.int (nI (Ln (AL S))), .ref (xa cx 137), .ref (xa cx 138), .ref (xa cx 139), .int (nI (((i - 1) / 5) + 0)), .ref (xa cx 140), .int (nI (An S)), .ref (xa cx 141), .ref (xa cx 142), .int (nI (Az S)), .int (nI nx), .ref (xa cx 143), .int (nI (Ay S)), .ref (xa cx 144), .ref (xa cx 145), .ref (xa cx 146), .long (Ad S), .ref (xa cx 147), .ref (xa cx 148)]) := by rw [eμ15, va_up_self]
                          have h137_15 := (congrFun eμ15 137).trans ((va_up_ne _ _ (by omega)).trans k137)
                          have h138_15 := (congrFun eμ15 138).trans ((va_up_ne _ _ (by omega)).trans k138)
                          have h139_15 := (congrFun eμ15 139).trans ((va_up_ne _ _ (by omega)).trans hq)
                          have h140_15 := (congrFun eμ15 140).trans ((va_up_ne _ _ (by omega)).trans k140)
                          have h141_15 := (congrFun eμ15 141).trans ((va_up_ne _ _ (by omega)).trans k141)
                          have h142_15 := (congrFun eμ15 142).trans ((va_up_ne _ _ (by omega)).trans k142)
                          have h143_15 := (congrFun eμ15 143).trans ((va_up_ne _ _ (by omega)).trans k143)
                          have h144_15 := (congrFun eμ15 144).trans ((va_up_ne _ _ (by omega)).trans k144)
                          have h145_15 := (congrFun eμ15 145).trans ((va_up_ne _ _ (by omega)).trans k145)
                          have h146_15 := (congrFun eμ15 146).trans ((va_up_ne _ _ (by omega)).trans k146)
                          have h147_15 := (congrFun eμ15 147).trans ((va_up_ne _ _ (by omega)).trans k147)
                          have h148_15 := (congrFun eμ15 148).trans ((va_up_ne _ _ (by omega)).trans k148)
                          refine lv_iinc (v := ((nI (i + 1)))) (lv' := [(1, .int (nI (i + 1))), (4, .int (nI 1)), (3, .int (nI (At S i))), (2, .int (nI ((i - 1) % 5))), (0, .ref (xa cx 136))]) hx hb dX5_readText_190 hl (k := 4) rfl (nI_add _ _) (by decide) rfl (fun ls hl => ?_)
                          refine lv_goto (tgt := 27) hx hb dX5_readText_193 (by decide) ?_
                          exact ih (i + 1) q μ15 _ _ _ (by omega) (by omega) (by rw [show (i + 1 - 1) / 5 = ((i - 1) / 5) + 0 by omega]; exact h136_15) h139_15 (fun z h1 h2 => by rw [eμ15, va_up_ne _ _ (by omega)]; exact hqo z h1 h2) (by rw [hf]; show (if fitB (At S i) i = true then ff (At S) d (i + 1) else some i) = _; rw [if_pos hfit]) (fun h k hk9 hh => hrd h k hk9 (by omega)) (fun p9 hp9 => (Nat.lt_or_ge p9 i).elim (fun a => hall p9 a) (fun a => by rw [show p9 = i by omega]; exact hfit)) hW (lv_sub hl [4, 0] rfl)
                        · skip
                          refine lv_iconst (v := nI 1) hx hb dX5_readText_181 (by decide) ?_
                          refine lv_goto (tgt := 186) hx hb dX5_readText_182 (by decide) ?_
                          refine nv_add F dX5_readText_186 ?_
                          refine nv_put F hW (by omega) k136 rfl iX5 tyX5 tyX5_ok nmX5 4 (by decide) tw_633 rfl rfl rfl (Nat.le_of_ble_eq_true rfl) dX5_readText_187 (fun H locs hW => ?_)
                          obtain ⟨μ16, eμ16⟩ : ∃ zz9 : ME, zz9 = va_up μ1 136 (.inr (5, [.int (nI (Ln (AL S))), .ref (xa cx 137), .ref (xa cx 138), .ref (xa cx 139), .int (nI (((i - 1) / 5) + 1)), .ref (xa cx 140), .int (nI (An S)), .ref (xa cx 141), .ref (xa cx 142), .int (nI (Az S)), .int (nI nx), .ref (xa cx 143), .int (nI (Ay S)), .ref (xa cx 144), .ref (xa cx 145), .ref (xa cx 146), .long (Ad S), .ref (xa cx 147), .ref (xa cx 148)])) := ⟨_, rfl⟩
                          have hW : St cx s μ16 H locs := by rw [eμ16]; exact hW
                          have h136_16 : μ16 136 = .inr (5, [.int (nI (Ln (AL S))), .ref (xa cx 137), .ref (xa cx 138), .ref (xa cx 139), .int (nI (((i - 1) / 5) + 1)), .ref (xa cx 140), .int (nI (An S)), .ref (xa cx 141), .ref (xa cx 142), .int (nI (Az S)), .int (nI nx), .ref (xa cx 143), .int (nI (Ay S)), .ref (xa cx 144), .ref (xa cx 145), .ref (xa cx 146), .long (Ad S), .ref (xa cx 147), .ref (xa cx 148)]) := by rw [eμ16, va_up_self]
                          have h137_16 := (congrFun eμ16 137).trans ((va_up_ne _ _ (by omega)).trans k137)
                          have h138_16 := (congrFun eμ16 138).trans ((va_up_ne _ _ (by omega)).trans k138)
                          have h139_16 := (congrFun eμ16 139).trans ((va_up_ne _ _ (by omega)).trans hq)
                          have h140_16 := (congrFun eμ16 140).trans ((va_up_ne _ _ (by omega)).trans k140)
                          have h141_16 := (congrFun eμ16 141).trans ((va_up_ne _ _ (by omega)).trans k141)
                          have h142_16 := (congrFun eμ16 142).trans ((va_up_ne _ _ (by omega)).trans k142)
                          have h143_16 := (congrFun eμ16 143).trans ((va_up_ne _ _ (by omega)).trans k143)
                          have h144_16 := (congrFun eμ16 144).trans ((va_up_ne _ _ (by omega)).trans k144)
                          have h145_16 := (congrFun eμ16 145).trans ((va_up_ne _ _ (by omega)).trans k145)
                          have h146_16 := (congrFun eμ16 146).trans ((va_up_ne _ _ (by omega)).trans k146)
                          have h147_16 := (congrFun eμ16 147).trans ((va_up_ne _ _ (by omega)).trans k147)
                          have h148_16 := (congrFun eμ16 148).trans ((va_up_ne _ _ (by omega)).trans k148)
                          refine lv_iinc (v := ((nI (i + 1)))) (lv' := [(1, .int (nI (i + 1))), (4, .int (nI 1)), (3, .int (nI (At S i))), (2, .int (nI ((i - 1) % 5))), (0, .ref (xa cx 136))]) hx hb dX5_readText_190 hl (k := 4) rfl (nI_add _ _) (by decide) rfl (fun ls hl => ?_)
                          refine lv_goto (tgt := 27) hx hb dX5_readText_193 (by decide) ?_
                          exact ih (i + 1) q μ16 _ _ _ (by omega) (by omega) (by rw [show (i + 1 - 1) / 5 = ((i - 1) / 5) + 1 by omega]; exact h136_16) h139_16 (fun z h1 h2 => by rw [eμ16, va_up_ne _ _ (by omega)]; exact hqo z h1 h2) (by rw [hf]; show (if fitB (At S i) i = true then ff (At S) d (i + 1) else some i) = _; rw [if_pos hfit]) (fun h k hk9 hh => hrd h k hk9 (by omega)) (fun p9 hp9 => (Nat.lt_or_ge p9 i).elim (fun a => hall p9 a) (fun a => by rw [show p9 = i by omega]; exact hfit)) hW (lv_sub hl [4, 0] rfl)
                      · skip
                        refine lv_aload_n hx hb dX5_readText_140 rfl (lv_at hl 3 rfl) ?_
                        refine nv_get F hW (by omega) k136 rfl iX5 3 (by decide) tw_632 rfl dX5_readText_141 ?_
                        refine lv_iconst (v := nI 4) hx hb dX5_readText_144 (by decide) ?_
                        refine lv_aload_n hx hb dX5_readText_145 rfl (lv_at hl 3 rfl) ?_
                        refine nv_get F hW (by omega) k136 rfl iX5 4 (by decide) tw_633 rfl dX5_readText_146 ?_
                        refine nv_mul F dX5_readText_149 ?_
                        refine lv_iload_n hx hb dX5_readText_150 rfl (lv_at hl 2 rfl) ?_
                        refine nv_add F dX5_readText_151 ?_
                        refine lv_iconst (v := nI 1) hx hb dX5_readText_152 (by decide) ?_
                        refine nv_sub F (by omega) dX5_readText_153 ?_
                        refine lv_iload_n hx hb dX5_readText_154 rfl (lv_at hl 2 rfl) ?_
                        refine lv_iconst (v := nI 4) hx hb dX5_readText_155 (by decide) ?_
                        refine nv_cne (tgt := 166) F (by omega) (by omega) dX5_readText_156 (by decide) (fun c_17 => ?_) (fun c_17 => ?_)
                        · skip
                          refine lv_iload_n hx hb dX5_readText_166 rfl (lv_at hl 1 rfl) ?_
                          refine lv_bipush (v := nI 48) hx hb dX5_readText_167 (by decide) ?_
                          refine nv_sub F (by omega) dX5_readText_169 ?_
                          refine nv_iastN F hW (by omega) hq (by omega) (by decide) dX5_readText_170 (fun H locs hW => ?_)
                          obtain ⟨μ18, eμ18⟩ : ∃ zz9 : ME, zz9 = va_up μ1 139 (.inl (xT cx 0, 24, .inl (upd q (((4 * ((i - 1) / 5)) + ((i - 1) % 5)) - 1) ((nI ((At S i) - 48)))))) := ⟨_, rfl⟩
                          have hW : St cx s μ18 H locs := by rw [eμ18]; exact hW
                          have h136_18 := (congrFun eμ18 136).trans ((va_up_ne _ _ (by omega)).trans k136)
                          have h137_18 := (congrFun eμ18 137).trans ((va_up_ne _ _ (by omega)).trans k137)
                          have h138_18 := (congrFun eμ18 138).trans ((va_up_ne _ _ (by omega)).trans k138)
                          have h139_18 : μ18 139 = .inl (xT cx 0, 24, .inl (upd q (((4 * ((i - 1) / 5)) + ((i - 1) % 5)) - 1) ((nI ((At S i) - 48))))) := by rw [eμ18, va_up_self]
                          have h140_18 := (congrFun eμ18 140).trans ((va_up_ne _ _ (by omega)).trans k140)
                          have h141_18 := (congrFun eμ18 141).trans ((va_up_ne _ _ (by omega)).trans k141)
                          have h142_18 := (congrFun eμ18 142).trans ((va_up_ne _ _ (by omega)).trans k142)
                          have h143_18 := (congrFun eμ18 143).trans ((va_up_ne _ _ (by omega)).trans k143)
                          have h144_18 := (congrFun eμ18 144).trans ((va_up_ne _ _ (by omega)).trans k144)
                          have h145_18 := (congrFun eμ18 145).trans ((va_up_ne _ _ (by omega)).trans k145)
                          have h146_18 := (congrFun eμ18 146).trans ((va_up_ne _ _ (by omega)).trans k146)
                          have h147_18 := (congrFun eμ18 147).trans ((va_up_ne _ _ (by omega)).trans k147)
                          have h148_18 := (congrFun eμ18 148).trans ((va_up_ne _ _ (by omega)).trans k148)
                          refine lv_aload_n hx hb dX5_readText_171 rfl (lv_at hl 3 rfl) ?_
                          refine lv_dup hx hb dX5_readText_172 rfl ?_
                          refine nv_get F hW (by omega) h136_18 rfl iX5 4 (by decide) tw_633 rfl dX5_readText_173 ?_
                          refine lv_iload_n hx hb dX5_readText_176 rfl (lv_at hl 2 rfl) ?_
                          refine lv_iconst (v := nI 4) hx hb dX5_readText_177 (by decide) ?_
                          refine nv_cne (tgt := 185) F (by omega) (by omega) dX5_readText_178 (by decide) (fun c_19 => ?_) (fun c_19 => ?_)
                          · skip
                            refine lv_iconst (v := nI 0) hx hb dX5_readText_185 (by decide) ?_
                            refine nv_add F dX5_readText_186 ?_
                            refine nv_put F hW (by omega) h136_18 rfl iX5 tyX5 tyX5_ok nmX5 4 (by decide) tw_633 rfl rfl rfl (Nat.le_of_ble_eq_true rfl) dX5_readText_187 (fun H locs hW => ?_)
                            obtain ⟨μ20, eμ20⟩ : ∃ zz9 : ME, zz9 = va_up μ18 136 (.inr (5, [.int (nI (Ln (AL S))), .ref (xa cx 137), .ref (xa cx 138), .ref (xa cx 139), .int (nI (((i - 1) / 5) + 0)), .ref (xa cx 140), .int (nI (An S)), .ref (xa cx 141), .ref (xa cx 142), .int (nI (Az S)), .int (nI nx), .ref (xa cx 143), .int (nI (Ay S)), .ref (xa cx 144), .ref (xa cx 145), .ref (xa cx 146), .long (Ad S), .ref (xa cx 147), .ref (xa cx 148)])) := ⟨_, rfl⟩
                            have hW : St cx s μ20 H locs := by rw [eμ20]; exact hW
                            have h136_20 : μ20 136 = .inr (5, [.int (nI (Ln (AL S))), .ref (xa cx 137), .ref (xa cx 138), .ref (xa cx 139), .int (nI (((i - 1) / 5) + 0)), .ref (xa cx 140), .int (nI (An S)), .ref (xa cx 141), .ref (xa cx 142), .int (nI (Az S)), .int (nI nx), .ref (xa cx 143), .int (nI (Ay S)), .ref (xa cx 144), .ref (xa cx 145), .ref (xa cx 146), .long (Ad S), .ref (xa cx 147), .ref (xa cx 148)]) := by rw [eμ20, va_up_self]
                            have h137_20 := (congrFun eμ20 137).trans ((va_up_ne _ _ (by omega)).trans h137_18)
                            have h138_20 := (congrFun eμ20 138).trans ((va_up_ne _ _ (by omega)).trans h138_18)
                            have h139_20 := (congrFun eμ20 139).trans ((va_up_ne _ _ (by omega)).trans h139_18)
                            have h140_20 := (congrFun eμ20 140).trans ((va_up_ne _ _ (by omega)).trans h140_18)
                            have h141_20 := (congrFun eμ20 141).trans ((va_up_ne _ _ (by omega)).trans h141_18)
                            have h142_20 := (congrFun eμ20 142).trans ((va_up_ne _ _ (by omega)).trans h142_18)
                            have h143_20 := (congrFun eμ20 143).trans ((va_up_ne _ _ (by omega)).trans h143_18)
                            have h144_20 := (congrFun eμ20 144).trans ((va_up_ne _ _ (by omega)).trans h144_18)
                            have h145_20 := (congrFun eμ20 145).trans ((va_up_ne _ _ (by omega)).trans h145_18)
                            have h146_20 := (congrFun eμ20 146).trans ((va_up_ne _ _ (by omega)).trans h146_18)
                            have h147_20 := (congrFun eμ20 147).trans ((va_up_ne _ _ (by omega)).trans h147_18)
                            have h148_20 := (congrFun eμ20 148).trans ((va_up_ne _ _ (by omega)).trans h148_18)
                            refine lv_iinc (v := ((nI (i + 1)))) (lv' := [(1, .int (nI (i + 1))), (4, .int (nI 1)), (3, .int (nI (At S i))), (2, .int (nI ((i - 1) % 5))), (0, .ref (xa cx 136))]) hx hb dX5_readText_190 hl (k := 4) rfl (nI_add _ _) (by decide) rfl (fun ls hl => ?_)
                            refine lv_goto (tgt := 27) hx hb dX5_readText_193 (by decide) ?_
                            exact ih (i + 1) ((upd q (((4 * ((i - 1) / 5)) + ((i - 1) % 5)) - 1) ((nI ((At S i) - 48))))) μ20 _ _ _ (by omega) (by omega) (by rw [show (i + 1 - 1) / 5 = ((i - 1) / 5) + 0 by omega]; exact h136_20) h139_20 (fun z h1 h2 => by rw [eμ20, va_up_ne _ _ (by omega)]; rw [eμ18, va_up_ne _ _ (by omega)]; exact hqo z h1 h2) (by rw [hf]; show (if fitB (At S i) i = true then ff (At S) d (i + 1) else some i) = _; rw [if_pos hfit]) (rd_step hrd (by omega) (by congr 1; unfold rdv; rw [if_neg (by omega), show 2 + 5 * ((i - 1) / 5) + ((i - 1) % 5 - 1) = i by omega])) (fun p9 hp9 => (Nat.lt_or_ge p9 i).elim (fun a => hall p9 a) (fun a => by rw [show p9 = i by omega]; exact hfit)) hW (lv_sub hl [4, 0] rfl)
                          · skip
                            refine lv_iconst (v := nI 1) hx hb dX5_readText_181 (by decide) ?_
                            refine lv_goto (tgt := 186) hx hb dX5_readText_182 (by decide) ?_
                            refine nv_add F dX5_readText_186 ?_
                            refine nv_put F hW (by omega) h136_18 rfl iX5 tyX5 tyX5_ok nmX5 4 (by decide) tw_633 rfl rfl rfl (Nat.le_of_ble_eq_true rfl) dX5_readText_187 (fun H locs hW => ?_)
                            obtain ⟨μ21, eμ21⟩ : ∃ zz9 : ME, zz9 = va_up μ18 136 (.inr (5, [.int (nI (Ln (AL S))), .ref (xa cx 137), .ref (xa cx 138), .ref (xa cx 139), .int (nI (((i - 1) / 5) + 1)), .ref (xa cx 140), .int (nI (An S)), .ref (xa cx 141), .ref (xa cx 142), .int (nI (Az S)), .int (nI nx), .ref (xa cx 143), .int (nI (Ay S)), .ref (xa cx 144), .ref (xa cx 145), .ref (xa cx 146), .long (Ad S), .ref (xa cx 147), .ref (xa cx 148)])) := ⟨_, rfl⟩
                            have hW : St cx s μ21 H locs := by rw [eμ21]; exact hW
                            have h136_21 : μ21 136 = .inr (5, [.int (nI (Ln (AL S))), .ref (xa cx 137), .ref (xa cx 138), .ref (xa cx 139), .int (nI (((i - 1) / 5) + 1)), .ref (xa cx 140), .int (nI (An S)), .ref (xa cx 141), .ref (xa cx 142), .int (nI (Az S)), .int (nI nx), .ref (xa cx 143), .int (nI (Ay S)), .ref (xa cx 144), .ref (xa cx 145), .ref (xa cx 146), .long (Ad S), .ref (xa cx 147), .ref (xa cx 148)]) := by rw [eμ21, va_up_self]
                            have h137_21 := (congrFun eμ21 137).trans ((va_up_ne _ _ (by omega)).trans h137_18)
                            have h138_21 := (congrFun eμ21 138).trans ((va_up_ne _ _ (by omega)).trans h138_18)
                            have h139_21 := (congrFun eμ21 139).trans ((va_up_ne _ _ (by omega)).trans h139_18)
                            have h140_21 := (congrFun eμ21 140).trans ((va_up_ne _ _ (by omega)).trans h140_18)
                            have h141_21 := (congrFun eμ21 141).trans ((va_up_ne _ _ (by omega)).trans h141_18)
                            have h142_21 := (congrFun eμ21 142).trans ((va_up_ne _ _ (by omega)).trans h142_18)
                            have h143_21 := (congrFun eμ21 143).trans ((va_up_ne _ _ (by omega)).trans h143_18)
                            have h144_21 := (congrFun eμ21 144).trans ((va_up_ne _ _ (by omega)).trans h144_18)
                            have h145_21 := (congrFun eμ21 145).trans ((va_up_ne _ _ (by omega)).trans h145_18)
                            have h146_21 := (congrFun eμ21 146).trans ((va_up_ne _ _ (by omega)).trans h146_18)
                            have h147_21 := (congrFun eμ21 147).trans ((va_up_ne _ _ (by omega)).trans h147_18)
                            have h148_21 := (congrFun eμ21 148).trans ((va_up_ne _ _ (by omega)).trans h148_18)
                            refine lv_iinc (v := ((nI (i + 1)))) (lv' := [(1, .int (nI (i + 1))), (4, .int (nI 1)), (3, .int (nI (At S i))), (2, .int (nI ((i - 1) % 5))), (0, .ref (xa cx 136))]) hx hb dX5_readText_190 hl (k := 4) rfl (nI_add _ _) (by decide) rfl (fun ls hl => ?_)
                            refine lv_goto (tgt := 27) hx hb dX5_readText_193 (by decide) ?_
                            exact ih (i + 1) ((upd q (((4 * ((i - 1) / 5)) + ((i - 1) % 5)) - 1) ((nI ((At S i) - 48))))) μ21 _ _ _ (by omega) (by omega) (by rw [show (i + 1 - 1) / 5 = ((i - 1) / 5) + 1 by omega]; exact h136_21) h139_21 (fun z h1 h2 => by rw [eμ21, va_up_ne _ _ (by omega)]; rw [eμ18, va_up_ne _ _ (by omega)]; exact hqo z h1 h2) (by rw [hf]; show (if fitB (At S i) i = true then ff (At S) d (i + 1) else some i) = _; rw [if_pos hfit]) (rd_step hrd (by omega) (by congr 1; unfold rdv; rw [if_neg (by omega), show 2 + 5 * ((i - 1) / 5) + ((i - 1) % 5 - 1) = i by omega])) (fun p9 hp9 => (Nat.lt_or_ge p9 i).elim (fun a => hall p9 a) (fun a => by rw [show p9 = i by omega]; exact hfit)) hW (lv_sub hl [4, 0] rfl)
                        · skip
                          refine lv_iload_n hx hb dX5_readText_159 rfl (lv_at hl 1 rfl) ?_
                          refine cl_ip (cl_runS (rest := [.int (nI (((4 * ((i - 1) / 5)) + ((i - 1) % 5)) - 1)), .ref (xa cx 139)]) F hW e_X5_66 (m_deedOf hI l (At S i) (by have := hA.1.2 i (by omega); omega)) ⟨Nat.le_of_ble_eq_true rfl, Nat.le_of_ble_eq_true rfl⟩ rfl rfl hl (Nat.le_of_ble_eq_true rfl) dX5_readText_160 ⟨Nat.zero_le _, Nat.zero_le _⟩) hW (fun H locs hW => ?_)
                          refine nv_top (y := ((nI (deedN (At S i))))) (md_dn (by first | exact hm8 | exact fun z => absurd (md_no z) (by omega))) ?_
                          refine lv_goto (tgt := 170) hx hb dX5_readText_163 (by decide) ?_
                          refine nv_iastN F hW (by omega) hq (by omega) (by decide) dX5_readText_170 (fun H locs hW => ?_)
                          obtain ⟨μ22, eμ22⟩ : ∃ zz9 : ME, zz9 = va_up μ1 139 (.inl (xT cx 0, 24, .inl (upd q (((4 * ((i - 1) / 5)) + ((i - 1) % 5)) - 1) ((nI (deedN (At S i))))))) := ⟨_, rfl⟩
                          have hW : St cx s μ22 H locs := by rw [eμ22]; exact hW
                          have h136_22 := (congrFun eμ22 136).trans ((va_up_ne _ _ (by omega)).trans k136)
                          have h137_22 := (congrFun eμ22 137).trans ((va_up_ne _ _ (by omega)).trans k137)
                          have h138_22 := (congrFun eμ22 138).trans ((va_up_ne _ _ (by omega)).trans k138)
                          have h139_22 : μ22 139 = .inl (xT cx 0, 24, .inl (upd q (((4 * ((i - 1) / 5)) + ((i - 1) % 5)) - 1) ((nI (deedN (At S i)))))) := by rw [eμ22, va_up_self]
                          have h140_22 := (congrFun eμ22 140).trans ((va_up_ne _ _ (by omega)).trans k140)
                          have h141_22 := (congrFun eμ22 141).trans ((va_up_ne _ _ (by omega)).trans k141)
                          have h142_22 := (congrFun eμ22 142).trans ((va_up_ne _ _ (by omega)).trans k142)
                          have h143_22 := (congrFun eμ22 143).trans ((va_up_ne _ _ (by omega)).trans k143)
                          have h144_22 := (congrFun eμ22 144).trans ((va_up_ne _ _ (by omega)).trans k144)
                          have h145_22 := (congrFun eμ22 145).trans ((va_up_ne _ _ (by omega)).trans k145)
                          have h146_22 := (congrFun eμ22 146).trans ((va_up_ne _ _ (by omega)).trans k146)
                          have h147_22 := (congrFun eμ22 147).trans ((va_up_ne _ _ (by omega)).trans k147)
                          have h148_22 := (congrFun eμ22 148).trans ((va_up_ne _ _ (by omega)).trans k148)
                          refine lv_aload_n hx hb dX5_readText_171 rfl (lv_at hl 3 rfl) ?_
                          refine lv_dup hx hb dX5_readText_172 rfl ?_
                          refine nv_get F hW (by omega) h136_22 rfl iX5 4 (by decide) tw_633 rfl dX5_readText_173 ?_
                          refine lv_iload_n hx hb dX5_readText_176 rfl (lv_at hl 2 rfl) ?_
                          refine lv_iconst (v := nI 4) hx hb dX5_readText_177 (by decide) ?_
                          refine nv_cne (tgt := 185) F (by omega) (by omega) dX5_readText_178 (by decide) (fun c_23 => ?_) (fun c_23 => ?_)
                          · skip
                            refine lv_iconst (v := nI 0) hx hb dX5_readText_185 (by decide) ?_
                            refine nv_add F dX5_readText_186 ?_
                            refine nv_put F hW (by omega) h136_22 rfl iX5 tyX5 tyX5_ok nmX5 4 (by decide) tw_633 rfl rfl rfl (Nat.le_of_ble_eq_true rfl) dX5_readText_187 (fun H locs hW => ?_)
                            obtain ⟨μ24, eμ24⟩ : ∃ zz9 : ME, zz9 = va_up μ22 136 (.inr (5, [.int (nI (Ln (AL S))), .ref (xa cx 137), .ref (xa cx 138), .ref (xa cx 139), .int (nI (((i - 1) / 5) + 0)), .ref (xa cx 140), .int (nI (An S)), .ref (xa cx 141), .ref (xa cx 142), .int (nI (Az S)), .int (nI nx), .ref (xa cx 143), .int (nI (Ay S)), .ref (xa cx 144), .ref (xa cx 145), .ref (xa cx 146), .long (Ad S), .ref (xa cx 147), .ref (xa cx 148)])) := ⟨_, rfl⟩
                            have hW : St cx s μ24 H locs := by rw [eμ24]; exact hW
                            have h136_24 : μ24 136 = .inr (5, [.int (nI (Ln (AL S))), .ref (xa cx 137), .ref (xa cx 138), .ref (xa cx 139), .int (nI (((i - 1) / 5) + 0)), .ref (xa cx 140), .int (nI (An S)), .ref (xa cx 141), .ref (xa cx 142), .int (nI (Az S)), .int (nI nx), .ref (xa cx 143), .int (nI (Ay S)), .ref (xa cx 144), .ref (xa cx 145), .ref (xa cx 146), .long (Ad S), .ref (xa cx 147), .ref (xa cx 148)]) := by rw [eμ24, va_up_self]
                            have h137_24 := (congrFun eμ24 137).trans ((va_up_ne _ _ (by omega)).trans h137_22)
                            have h138_24 := (congrFun eμ24 138).trans ((va_up_ne _ _ (by omega)).trans h138_22)
                            have h139_24 := (congrFun eμ24 139).trans ((va_up_ne _ _ (by omega)).trans h139_22)
                            have h140_24 := (congrFun eμ24 140).trans ((va_up_ne _ _ (by omega)).trans h140_22)
                            have h141_24 := (congrFun eμ24 141).trans ((va_up_ne _ _ (by omega)).trans h141_22)
                            have h142_24 := (congrFun eμ24 142).trans ((va_up_ne _ _ (by omega)).trans h142_22)
                            have h143_24 := (congrFun eμ24 143).trans ((va_up_ne _ _ (by omega)).trans h143_22)
                            have h144_24 := (congrFun eμ24 144).trans ((va_up_ne _ _ (by omega)).trans h144_22)
                            have h145_24 := (congrFun eμ24 145).trans ((va_up_ne _ _ (by omega)).trans h145_22)
                            have h146_24 := (congrFun eμ24 146).trans ((va_up_ne _ _ (by omega)).trans h146_22)
                            have h147_24 := (congrFun eμ24 147).trans ((va_up_ne _ _ (by omega)).trans h147_22)
                            have h148_24 := (congrFun eμ24 148).trans ((va_up_ne _ _ (by omega)).trans h148_22)
                            refine lv_iinc (v := ((nI (i + 1)))) (lv' := [(1, .int (nI (i + 1))), (4, .int (nI 1)), (3, .int (nI (At S i))), (2, .int (nI ((i - 1) % 5))), (0, .ref (xa cx 136))]) hx hb dX5_readText_190 hl (k := 4) rfl (nI_add _ _) (by decide) rfl (fun ls hl => ?_)
                            refine lv_goto (tgt := 27) hx hb dX5_readText_193 (by decide) ?_
                            exact ih (i + 1) ((upd q (((4 * ((i - 1) / 5)) + ((i - 1) % 5)) - 1) ((nI (deedN (At S i)))))) μ24 _ _ _ (by omega) (by omega) (by rw [show (i + 1 - 1) / 5 = ((i - 1) / 5) + 0 by omega]; exact h136_24) h139_24 (fun z h1 h2 => by rw [eμ24, va_up_ne _ _ (by omega)]; rw [eμ22, va_up_ne _ _ (by omega)]; exact hqo z h1 h2) (by rw [hf]; show (if fitB (At S i) i = true then ff (At S) d (i + 1) else some i) = _; rw [if_pos hfit]) (rd_step hrd (by omega) (by congr 1; unfold rdv; rw [if_pos (by omega), show 2 + 5 * ((i - 1) / 5) + ((i - 1) % 5 - 1) = i by omega])) (fun p9 hp9 => (Nat.lt_or_ge p9 i).elim (fun a => hall p9 a) (fun a => by rw [show p9 = i by omega]; exact hfit)) hW (lv_sub hl [4, 0] rfl)
                          · skip
                            refine lv_iconst (v := nI 1) hx hb dX5_readText_181 (by decide) ?_
                            refine lv_goto (tgt := 186) hx hb dX5_readText_182 (by decide) ?_
                            refine nv_add F dX5_readText_186 ?_
                            refine nv_put F hW (by omega) h136_22 rfl iX5 tyX5 tyX5_ok nmX5 4 (by decide) tw_633 rfl rfl rfl (Nat.le_of_ble_eq_true rfl) dX5_readText_187 (fun H locs hW => ?_)
                            obtain ⟨μ25, eμ25⟩ : ∃ zz9 : ME, zz9 = va_up μ22 136 (.inr (5, [.int (nI (Ln (AL S))), .ref (xa cx 137), .ref (xa cx 138), .ref (xa cx 139), .int (nI (((i - 1) / 5) + 1)), .ref (xa cx 140), .int (nI (An S)), .ref (xa cx 141), .ref (xa cx 142), .int (nI (Az S)), .int (nI nx), .ref (xa cx 143), .int (nI (Ay S)), .ref (xa cx 144), .ref (xa cx 145), .ref (xa cx 146), .long (Ad S), .ref (xa cx 147), .ref (xa cx 148)])) := ⟨_, rfl⟩
                            have hW : St cx s μ25 H locs := by rw [eμ25]; exact hW
                            have h136_25 : μ25 136 = .inr (5, [.int (nI (Ln (AL S))), .ref (xa cx 137), .ref (xa cx 138), .ref (xa cx 139), .int (nI (((i - 1) / 5) + 1)), .ref (xa cx 140), .int (nI (An S)), .ref (xa cx 141), .ref (xa cx 142), .int (nI (Az S)), .int (nI nx), .ref (xa cx 143), .int (nI (Ay S)), .ref (xa cx 144), .ref (xa cx 145), .ref (xa cx 146), .long (Ad S), .ref (xa cx 147), .ref (xa cx 148)]) := by rw [eμ25, va_up_self]
                            have h137_25 := (congrFun eμ25 137).trans ((va_up_ne _ _ (by omega)).trans h137_22)
                            have h138_25 := (congrFun eμ25 138).trans ((va_up_ne _ _ (by omega)).trans h138_22)
                            have h139_25 := (congrFun eμ25 139).trans ((va_up_ne _ _ (by omega)).trans h139_22)
                            have h140_25 := (congrFun eμ25 140).trans ((va_up_ne _ _ (by omega)).trans h140_22)
                            have h141_25 := (congrFun eμ25 141).trans ((va_up_ne _ _ (by omega)).trans h141_22)
                            have h142_25 := (congrFun eμ25 142).trans ((va_up_ne _ _ (by omega)).trans h142_22)
                            have h143_25 := (congrFun eμ25 143).trans ((va_up_ne _ _ (by omega)).trans h143_22)
                            have h144_25 := (congrFun eμ25 144).trans ((va_up_ne _ _ (by omega)).trans h144_22)
                            have h145_25 := (congrFun eμ25 145).trans ((va_up_ne _ _ (by omega)).trans h145_22)
                            have h146_25 := (congrFun eμ25 146).trans ((va_up_ne _ _ (by omega)).trans h146_22)
                            have h147_25 := (congrFun eμ25 147).trans ((va_up_ne _ _ (by omega)).trans h147_22)
                            have h148_25 := (congrFun eμ25 148).trans ((va_up_ne _ _ (by omega)).trans h148_22)
                            refine lv_iinc (v := ((nI (i + 1)))) (lv' := [(1, .int (nI (i + 1))), (4, .int (nI 1)), (3, .int (nI (At S i))), (2, .int (nI ((i - 1) % 5))), (0, .ref (xa cx 136))]) hx hb dX5_readText_190 hl (k := 4) rfl (nI_add _ _) (by decide) rfl (fun ls hl => ?_)
                            refine lv_goto (tgt := 27) hx hb dX5_readText_193 (by decide) ?_
                            exact ih (i + 1) ((upd q (((4 * ((i - 1) / 5)) + ((i - 1) % 5)) - 1) ((nI (deedN (At S i)))))) μ25 _ _ _ (by omega) (by omega) (by rw [show (i + 1 - 1) / 5 = ((i - 1) / 5) + 1 by omega]; exact h136_25) h139_25 (fun z h1 h2 => by rw [eμ25, va_up_ne _ _ (by omega)]; rw [eμ22, va_up_ne _ _ (by omega)]; exact hqo z h1 h2) (by rw [hf]; show (if fitB (At S i) i = true then ff (At S) d (i + 1) else some i) = _; rw [if_pos hfit]) (rd_step hrd (by omega) (by congr 1; unfold rdv; rw [if_pos (by omega), show 2 + 5 * ((i - 1) / 5) + ((i - 1) % 5 - 1) = i by omega])) (fun p9 hp9 => (Nat.lt_or_ge p9 i).elim (fun a => hall p9 a) (fun a => by rw [show p9 = i by omega]; exact hfit)) hW (lv_sub hl [4, 0] rfl)
                    · skip
                      exact absurd c_12 (by decide)
                · skip
                  refine lv_iload_n hx hb dX5_readText_99 rfl (lv_at hl 0 rfl) ?_
                  refine lv_i2l (v := lN (At S i)) hx hb dX5_readText_100 (nI_l (by have := hA.1.2 i (by omega); omega)) ?_
                  refine lv_ldc2 (v := lN 48) hx hb F.1.2.2.2.1 (hts _ tw_708) dX5_readText_101 ?_
                  refine lv_ldc2 (v := lN 57) hx hb F.1.2.2.2.1 (hts _ tw_710) dX5_readText_104 ?_
                  refine cl_ip (cl_runS (rest := []) F hW e_X5_49 (m_in hI l ((lN (At S i))) ((lN 48)) ((lN 57))) ⟨Nat.le_of_ble_eq_true rfl, Nat.le_of_ble_eq_true rfl⟩ rfl rfl hl (Nat.le_of_ble_eq_true rfl) dX5_readText_107 ⟨Nat.zero_le _, Nat.zero_le _⟩) hW (fun H locs hW => ?_)
                  refine nv_top (y := ((b2 (decide (48 ≤ At S i ∧ At S i ≤ 57))))) (congrArg b2 (inL_N (by have := hA.1.2 i (by omega); omega) (by omega) (by omega))) ?_
                  refine lv_goto (tgt := 127) hx hb dX5_readText_110 (by decide) ?_
                  refine lv_istore (lv' := [(4, .int (b2 (decide (48 ≤ At S i ∧ At S i ≤ 57)))), (3, .int (nI (At S i))), (2, .int (nI ((i - 1) % 5))), (0, .ref (xa cx 136)), (1, .int (nI i))]) hx hb dX5_readText_127 hl (by decide) rfl (fun ls hl => ?_)
                  refine lv_iload hx hb dX5_readText_129 (lv_at hl 0 rfl) ?_
                  refine nv_bne (tgt := 136) F dX5_readText_131 (by decide) (fun c_26 => ?_) (fun c_26 => ?_)
                  · skip
                    have hd9 := of_decide_eq_true c_26
                    have hfit : fitB (At S i) i = true := by
                      unfold fitB
                      first
                        | (rw [if_pos (by omega)]; first | exact decide_eq_true (by omega) | exact decide_eq_false (by omega))
                        | (rw [if_neg (by omega), if_pos (by omega)]; done)
                        | (rw [if_neg (by omega), if_neg (by omega), if_pos (by omega)]; first | exact decide_eq_true (by omega) | exact decide_eq_false (by omega))
                        | (rw [if_neg (by omega), if_neg (by omega), if_neg (by omega), if_pos (by omega)]; first | exact decide_eq_true (by omega) | exact decide_eq_false (by omega))
                        | (rw [if_neg (by omega), if_neg (by omega), if_neg (by omega), if_neg (by omega), if_pos (by omega)]; first | exact decide_eq_true (by omega) | exact decide_eq_false (by omega))
                        | (rw [if_neg (by omega), if_neg (by omega), if_neg (by omega), if_neg (by omega), if_neg (by omega)]; first | exact decide_eq_true (by omega) | exact decide_eq_false (by omega))
                        | (rw [if_neg (by omega)]; rcases Nat.lt_or_ge i 31 with h31 | h31; (rw [if_neg (by omega), if_pos (by omega)]; exact decide_eq_false (by omega)); rw [if_pos h31])
                    have hi31 := fit31 hfit
                    refine lv_iload_n hx hb dX5_readText_136 rfl (lv_at hl 2 rfl) ?_
                    refine nv_zle (tgt := 171) F (by omega) dX5_readText_137 (by decide) (fun c_27 => ?_) (fun c_27 => ?_)
                    · skip
                      refine lv_aload_n hx hb dX5_readText_171 rfl (lv_at hl 3 rfl) ?_
                      refine lv_dup hx hb dX5_readText_172 rfl ?_
                      refine nv_get F hW (by omega) k136 rfl iX5 4 (by decide) tw_633 rfl dX5_readText_173 ?_
                      refine lv_iload_n hx hb dX5_readText_176 rfl (lv_at hl 2 rfl) ?_
                      refine lv_iconst (v := nI 4) hx hb dX5_readText_177 (by decide) ?_
                      refine nv_cne (tgt := 185) F (by omega) (by omega) dX5_readText_178 (by decide) (fun c_28 => ?_) (fun c_28 => ?_)
                      · skip
                        refine lv_iconst (v := nI 0) hx hb dX5_readText_185 (by decide) ?_
                        refine nv_add F dX5_readText_186 ?_
                        refine nv_put F hW (by omega) k136 rfl iX5 tyX5 tyX5_ok nmX5 4 (by decide) tw_633 rfl rfl rfl (Nat.le_of_ble_eq_true rfl) dX5_readText_187 (fun H locs hW => ?_)
                        obtain ⟨μ29, eμ29⟩ : ∃ zz9 : ME, zz9 = va_up μ1 136 (.inr (5, [.int (nI (Ln (AL S))), .ref (xa cx 137), .ref (xa cx 138), .ref (xa cx 139), .int (nI (((i - 1) / 5) + 0)), .ref (xa cx 140), .int (nI (An S)), .ref (xa cx 141), .ref (xa cx 142), .int (nI (Az S)), .int (nI nx), .ref (xa cx 143), .int (nI (Ay S)), .ref (xa cx 144), .ref (xa cx 145), .ref (xa cx 146), .long (Ad S), .ref (xa cx 147), .ref (xa cx 148)])) := ⟨_, rfl⟩
                        have hW : St cx s μ29 H locs := by rw [eμ29]; exact hW
                        have h136_29 : μ29 136 = .inr (5, [.int (nI (Ln (AL S))), .ref (xa cx 137), .ref (xa cx 138), .ref (xa cx 139), .int (nI (((i - 1) / 5) + 0)), .ref (xa cx 140), .int (nI (An S)), .ref (xa cx 141), .ref (xa cx 142), .int (nI (Az S)), .int (nI nx), .ref (xa cx 143), .int (nI (Ay S)), .ref (xa cx 144), .ref (xa cx 145), .ref (xa cx 146), .long (Ad S), .ref (xa cx 147), .ref (xa cx 148)]) := by rw [eμ29, va_up_self]
                        have h137_29 := (congrFun eμ29 137).trans ((va_up_ne _ _ (by omega)).trans k137)
                        have h138_29 := (congrFun eμ29 138).trans ((va_up_ne _ _ (by omega)).trans k138)
                        have h139_29 := (congrFun eμ29 139).trans ((va_up_ne _ _ (by omega)).trans hq)
                        have h140_29 := (congrFun eμ29 140).trans ((va_up_ne _ _ (by omega)).trans k140)
                        have h141_29 := (congrFun eμ29 141).trans ((va_up_ne _ _ (by omega)).trans k141)
                        have h142_29 := (congrFun eμ29 142).trans ((va_up_ne _ _ (by omega)).trans k142)
                        have h143_29 := (congrFun eμ29 143).trans ((va_up_ne _ _ (by omega)).trans k143)
                        have h144_29 := (congrFun eμ29 144).trans ((va_up_ne _ _ (by omega)).trans k144)
                        have h145_29 := (congrFun eμ29 145).trans ((va_up_ne _ _ (by omega)).trans k145)
                        have h146_29 := (congrFun eμ29 146).trans ((va_up_ne _ _ (by omega)).trans k146)
                        have h147_29 := (congrFun eμ29 147).trans ((va_up_ne _ _ (by omega)).trans k147)
                        have h148_29 := (congrFun eμ29 148).trans ((va_up_ne _ _ (by omega)).trans k148)
                        refine lv_iinc (v := ((nI (i + 1)))) (lv' := [(1, .int (nI (i + 1))), (4, .int (b2 (decide (48 ≤ At S i ∧ At S i ≤ 57)))), (3, .int (nI (At S i))), (2, .int (nI ((i - 1) % 5))), (0, .ref (xa cx 136))]) hx hb dX5_readText_190 hl (k := 4) rfl (nI_add _ _) (by decide) rfl (fun ls hl => ?_)
                        refine lv_goto (tgt := 27) hx hb dX5_readText_193 (by decide) ?_
                        exact ih (i + 1) q μ29 _ _ _ (by omega) (by omega) (by rw [show (i + 1 - 1) / 5 = ((i - 1) / 5) + 0 by omega]; exact h136_29) h139_29 (fun z h1 h2 => by rw [eμ29, va_up_ne _ _ (by omega)]; exact hqo z h1 h2) (by rw [hf]; show (if fitB (At S i) i = true then ff (At S) d (i + 1) else some i) = _; rw [if_pos hfit]) (fun h k hk9 hh => hrd h k hk9 (by omega)) (fun p9 hp9 => (Nat.lt_or_ge p9 i).elim (fun a => hall p9 a) (fun a => by rw [show p9 = i by omega]; exact hfit)) hW (lv_sub hl [4, 0] rfl)
                      · skip
                        refine lv_iconst (v := nI 1) hx hb dX5_readText_181 (by decide) ?_
                        refine lv_goto (tgt := 186) hx hb dX5_readText_182 (by decide) ?_
                        refine nv_add F dX5_readText_186 ?_
                        refine nv_put F hW (by omega) k136 rfl iX5 tyX5 tyX5_ok nmX5 4 (by decide) tw_633 rfl rfl rfl (Nat.le_of_ble_eq_true rfl) dX5_readText_187 (fun H locs hW => ?_)
                        obtain ⟨μ30, eμ30⟩ : ∃ zz9 : ME, zz9 = va_up μ1 136 (.inr (5, [.int (nI (Ln (AL S))), .ref (xa cx 137), .ref (xa cx 138), .ref (xa cx 139), .int (nI (((i - 1) / 5) + 1)), .ref (xa cx 140), .int (nI (An S)), .ref (xa cx 141), .ref (xa cx 142), .int (nI (Az S)), .int (nI nx), .ref (xa cx 143), .int (nI (Ay S)), .ref (xa cx 144), .ref (xa cx 145), .ref (xa cx 146), .long (Ad S), .ref (xa cx 147), .ref (xa cx 148)])) := ⟨_, rfl⟩
                        have hW : St cx s μ30 H locs := by rw [eμ30]; exact hW
                        have h136_30 : μ30 136 = .inr (5, [.int (nI (Ln (AL S))), .ref (xa cx 137), .ref (xa cx 138), .ref (xa cx 139), .int (nI (((i - 1) / 5) + 1)), .ref (xa cx 140), .int (nI (An S)), .ref (xa cx 141), .ref (xa cx 142), .int (nI (Az S)), .int (nI nx), .ref (xa cx 143), .int (nI (Ay S)), .ref (xa cx 144), .ref (xa cx 145), .ref (xa cx 146), .long (Ad S), .ref (xa cx 147), .ref (xa cx 148)]) := by rw [eμ30, va_up_self]
                        have h137_30 := (congrFun eμ30 137).trans ((va_up_ne _ _ (by omega)).trans k137)
                        have h138_30 := (congrFun eμ30 138).trans ((va_up_ne _ _ (by omega)).trans k138)
                        have h139_30 := (congrFun eμ30 139).trans ((va_up_ne _ _ (by omega)).trans hq)
                        have h140_30 := (congrFun eμ30 140).trans ((va_up_ne _ _ (by omega)).trans k140)
                        have h141_30 := (congrFun eμ30 141).trans ((va_up_ne _ _ (by omega)).trans k141)
                        have h142_30 := (congrFun eμ30 142).trans ((va_up_ne _ _ (by omega)).trans k142)
                        have h143_30 := (congrFun eμ30 143).trans ((va_up_ne _ _ (by omega)).trans k143)
                        have h144_30 := (congrFun eμ30 144).trans ((va_up_ne _ _ (by omega)).trans k144)
                        have h145_30 := (congrFun eμ30 145).trans ((va_up_ne _ _ (by omega)).trans k145)
                        have h146_30 := (congrFun eμ30 146).trans ((va_up_ne _ _ (by omega)).trans k146)
                        have h147_30 := (congrFun eμ30 147).trans ((va_up_ne _ _ (by omega)).trans k147)
                        have h148_30 := (congrFun eμ30 148).trans ((va_up_ne _ _ (by omega)).trans k148)
                        refine lv_iinc (v := ((nI (i + 1)))) (lv' := [(1, .int (nI (i + 1))), (4, .int (b2 (decide (48 ≤ At S i ∧ At S i ≤ 57)))), (3, .int (nI (At S i))), (2, .int (nI ((i - 1) % 5))), (0, .ref (xa cx 136))]) hx hb dX5_readText_190 hl (k := 4) rfl (nI_add _ _) (by decide) rfl (fun ls hl => ?_)
                        refine lv_goto (tgt := 27) hx hb dX5_readText_193 (by decide) ?_
                        exact ih (i + 1) q μ30 _ _ _ (by omega) (by omega) (by rw [show (i + 1 - 1) / 5 = ((i - 1) / 5) + 1 by omega]; exact h136_30) h139_30 (fun z h1 h2 => by rw [eμ30, va_up_ne _ _ (by omega)]; exact hqo z h1 h2) (by rw [hf]; show (if fitB (At S i) i = true then ff (At S) d (i + 1) else some i) = _; rw [if_pos hfit]) (fun h k hk9 hh => hrd h k hk9 (by omega)) (fun p9 hp9 => (Nat.lt_or_ge p9 i).elim (fun a => hall p9 a) (fun a => by rw [show p9 = i by omega]; exact hfit)) hW (lv_sub hl [4, 0] rfl)
                    · skip
                      refine lv_aload_n hx hb dX5_readText_140 rfl (lv_at hl 3 rfl) ?_
                      refine nv_get F hW (by omega) k136 rfl iX5 3 (by decide) tw_632 rfl dX5_readText_141 ?_
                      refine lv_iconst (v := nI 4) hx hb dX5_readText_144 (by decide) ?_
                      refine lv_aload_n hx hb dX5_readText_145 rfl (lv_at hl 3 rfl) ?_
                      refine nv_get F hW (by omega) k136 rfl iX5 4 (by decide) tw_633 rfl dX5_readText_146 ?_
                      refine nv_mul F dX5_readText_149 ?_
                      refine lv_iload_n hx hb dX5_readText_150 rfl (lv_at hl 2 rfl) ?_
                      refine nv_add F dX5_readText_151 ?_
                      refine lv_iconst (v := nI 1) hx hb dX5_readText_152 (by decide) ?_
                      refine nv_sub F (by omega) dX5_readText_153 ?_
                      refine lv_iload_n hx hb dX5_readText_154 rfl (lv_at hl 2 rfl) ?_
                      refine lv_iconst (v := nI 4) hx hb dX5_readText_155 (by decide) ?_
                      refine nv_cne (tgt := 166) F (by omega) (by omega) dX5_readText_156 (by decide) (fun c_31 => ?_) (fun c_31 => ?_)
                      · skip
                        refine lv_iload_n hx hb dX5_readText_166 rfl (lv_at hl 1 rfl) ?_
                        refine lv_bipush (v := nI 48) hx hb dX5_readText_167 (by decide) ?_
                        refine nv_sub F (by omega) dX5_readText_169 ?_
                        refine nv_iastN F hW (by omega) hq (by omega) (by decide) dX5_readText_170 (fun H locs hW => ?_)
                        obtain ⟨μ32, eμ32⟩ : ∃ zz9 : ME, zz9 = va_up μ1 139 (.inl (xT cx 0, 24, .inl (upd q (((4 * ((i - 1) / 5)) + ((i - 1) % 5)) - 1) ((nI ((At S i) - 48)))))) := ⟨_, rfl⟩
                        have hW : St cx s μ32 H locs := by rw [eμ32]; exact hW
                        have h136_32 := (congrFun eμ32 136).trans ((va_up_ne _ _ (by omega)).trans k136)
                        have h137_32 := (congrFun eμ32 137).trans ((va_up_ne _ _ (by omega)).trans k137)
                        have h138_32 := (congrFun eμ32 138).trans ((va_up_ne _ _ (by omega)).trans k138)
                        have h139_32 : μ32 139 = .inl (xT cx 0, 24, .inl (upd q (((4 * ((i - 1) / 5)) + ((i - 1) % 5)) - 1) ((nI ((At S i) - 48))))) := by rw [eμ32, va_up_self]
                        have h140_32 := (congrFun eμ32 140).trans ((va_up_ne _ _ (by omega)).trans k140)
                        have h141_32 := (congrFun eμ32 141).trans ((va_up_ne _ _ (by omega)).trans k141)
                        have h142_32 := (congrFun eμ32 142).trans ((va_up_ne _ _ (by omega)).trans k142)
                        have h143_32 := (congrFun eμ32 143).trans ((va_up_ne _ _ (by omega)).trans k143)
                        have h144_32 := (congrFun eμ32 144).trans ((va_up_ne _ _ (by omega)).trans k144)
                        have h145_32 := (congrFun eμ32 145).trans ((va_up_ne _ _ (by omega)).trans k145)
                        have h146_32 := (congrFun eμ32 146).trans ((va_up_ne _ _ (by omega)).trans k146)
                        have h147_32 := (congrFun eμ32 147).trans ((va_up_ne _ _ (by omega)).trans k147)
                        have h148_32 := (congrFun eμ32 148).trans ((va_up_ne _ _ (by omega)).trans k148)
                        refine lv_aload_n hx hb dX5_readText_171 rfl (lv_at hl 3 rfl) ?_
                        refine lv_dup hx hb dX5_readText_172 rfl ?_
                        refine nv_get F hW (by omega) h136_32 rfl iX5 4 (by decide) tw_633 rfl dX5_readText_173 ?_
                        refine lv_iload_n hx hb dX5_readText_176 rfl (lv_at hl 2 rfl) ?_
                        refine lv_iconst (v := nI 4) hx hb dX5_readText_177 (by decide) ?_
                        refine nv_cne (tgt := 185) F (by omega) (by omega) dX5_readText_178 (by decide) (fun c_33 => ?_) (fun c_33 => ?_)
                        · skip
                          refine lv_iconst (v := nI 0) hx hb dX5_readText_185 (by decide) ?_
                          refine nv_add F dX5_readText_186 ?_
                          refine nv_put F hW (by omega) h136_32 rfl iX5 tyX5 tyX5_ok nmX5 4 (by decide) tw_633 rfl rfl rfl (Nat.le_of_ble_eq_true rfl) dX5_readText_187 (fun H locs hW => ?_)
                          obtain ⟨μ34, eμ34⟩ : ∃ zz9 : ME, zz9 = va_up μ32 136 (.inr (5, [.int (nI (Ln (AL S))), .ref (xa cx 137), .ref (xa cx 138), .ref (xa cx 139), .int (nI (((i - 1) / 5) + 0)), .ref (xa cx 140), .int (nI (An S)), .ref (xa cx 141), .ref (xa cx 142), .int (nI (Az S)), .int (nI nx), .ref (xa cx 143), .int (nI (Ay S)), .ref (xa cx 144), .ref (xa cx 145), .ref (xa cx 146), .long (Ad S), .ref (xa cx 147), .ref (xa cx 148)])) := ⟨_, rfl⟩
                          have hW : St cx s μ34 H locs := by rw [eμ34]; exact hW
                          have h136_34 : μ34 136 = .inr (5, [.int (nI (Ln (AL S))), .ref (xa cx 137), .ref (xa cx 138), .ref (xa cx 139), .int (nI (((i - 1) / 5) + 0)), .ref (xa cx 140), .int (nI (An S)), .ref (xa cx 141), .ref (xa cx 142), .int (nI (Az S)), .int (nI nx), .ref (xa cx 143), .int (nI (Ay S)), .ref (xa cx 144), .ref (xa cx 145), .ref (xa cx 146), .long (Ad S), .ref (xa cx 147), .ref (xa cx 148)]) := by rw [eμ34, va_up_self]
                          have h137_34 := (congrFun eμ34 137).trans ((va_up_ne _ _ (by omega)).trans h137_32)
                          have h138_34 := (congrFun eμ34 138).trans ((va_up_ne _ _ (by omega)).trans h138_32)
                          have h139_34 := (congrFun eμ34 139).trans ((va_up_ne _ _ (by omega)).trans h139_32)
                          have h140_34 := (congrFun eμ34 140).trans ((va_up_ne _ _ (by omega)).trans h140_32)
                          have h141_34 := (congrFun eμ34 141).trans ((va_up_ne _ _ (by omega)).trans h141_32)
                          have h142_34 := (congrFun eμ34 142).trans ((va_up_ne _ _ (by omega)).trans h142_32)
                          have h143_34 := (congrFun eμ34 143).trans ((va_up_ne _ _ (by omega)).trans h143_32)
                          have h144_34 := (congrFun eμ34 144).trans ((va_up_ne _ _ (by omega)).trans h144_32)
                          have h145_34 := (congrFun eμ34 145).trans ((va_up_ne _ _ (by omega)).trans h145_32)
                          have h146_34 := (congrFun eμ34 146).trans ((va_up_ne _ _ (by omega)).trans h146_32)
                          have h147_34 := (congrFun eμ34 147).trans ((va_up_ne _ _ (by omega)).trans h147_32)
                          have h148_34 := (congrFun eμ34 148).trans ((va_up_ne _ _ (by omega)).trans h148_32)
                          refine lv_iinc (v := ((nI (i + 1)))) (lv' := [(1, .int (nI (i + 1))), (4, .int (b2 (decide (48 ≤ At S i ∧ At S i ≤ 57)))), (3, .int (nI (At S i))), (2, .int (nI ((i - 1) % 5))), (0, .ref (xa cx 136))]) hx hb dX5_readText_190 hl (k := 4) rfl (nI_add _ _) (by decide) rfl (fun ls hl => ?_)
                          refine lv_goto (tgt := 27) hx hb dX5_readText_193 (by decide) ?_
                          exact ih (i + 1) ((upd q (((4 * ((i - 1) / 5)) + ((i - 1) % 5)) - 1) ((nI ((At S i) - 48))))) μ34 _ _ _ (by omega) (by omega) (by rw [show (i + 1 - 1) / 5 = ((i - 1) / 5) + 0 by omega]; exact h136_34) h139_34 (fun z h1 h2 => by rw [eμ34, va_up_ne _ _ (by omega)]; rw [eμ32, va_up_ne _ _ (by omega)]; exact hqo z h1 h2) (by rw [hf]; show (if fitB (At S i) i = true then ff (At S) d (i + 1) else some i) = _; rw [if_pos hfit]) (rd_step hrd (by omega) (by congr 1; unfold rdv; rw [if_neg (by omega), show 2 + 5 * ((i - 1) / 5) + ((i - 1) % 5 - 1) = i by omega])) (fun p9 hp9 => (Nat.lt_or_ge p9 i).elim (fun a => hall p9 a) (fun a => by rw [show p9 = i by omega]; exact hfit)) hW (lv_sub hl [4, 0] rfl)
                        · skip
                          refine lv_iconst (v := nI 1) hx hb dX5_readText_181 (by decide) ?_
                          refine lv_goto (tgt := 186) hx hb dX5_readText_182 (by decide) ?_
                          refine nv_add F dX5_readText_186 ?_
                          refine nv_put F hW (by omega) h136_32 rfl iX5 tyX5 tyX5_ok nmX5 4 (by decide) tw_633 rfl rfl rfl (Nat.le_of_ble_eq_true rfl) dX5_readText_187 (fun H locs hW => ?_)
                          obtain ⟨μ35, eμ35⟩ : ∃ zz9 : ME, zz9 = va_up μ32 136 (.inr (5, [.int (nI (Ln (AL S))), .ref (xa cx 137), .ref (xa cx 138), .ref (xa cx 139), .int (nI (((i - 1) / 5) + 1)), .ref (xa cx 140), .int (nI (An S)), .ref (xa cx 141), .ref (xa cx 142), .int (nI (Az S)), .int (nI nx), .ref (xa cx 143), .int (nI (Ay S)), .ref (xa cx 144), .ref (xa cx 145), .ref (xa cx 146), .long (Ad S), .ref (xa cx 147), .ref (xa cx 148)])) := ⟨_, rfl⟩
                          have hW : St cx s μ35 H locs := by rw [eμ35]; exact hW
                          have h136_35 : μ35 136 = .inr (5, [.int (nI (Ln (AL S))), .ref (xa cx 137), .ref (xa cx 138), .ref (xa cx 139), .int (nI (((i - 1) / 5) + 1)), .ref (xa cx 140), .int (nI (An S)), .ref (xa cx 141), .ref (xa cx 142), .int (nI (Az S)), .int (nI nx), .ref (xa cx 143), .int (nI (Ay S)), .ref (xa cx 144), .ref (xa cx 145), .ref (xa cx 146), .long (Ad S), .ref (xa cx 147), .ref (xa cx 148)]) := by rw [eμ35, va_up_self]
                          have h137_35 := (congrFun eμ35 137).trans ((va_up_ne _ _ (by omega)).trans h137_32)
                          have h138_35 := (congrFun eμ35 138).trans ((va_up_ne _ _ (by omega)).trans h138_32)
                          have h139_35 := (congrFun eμ35 139).trans ((va_up_ne _ _ (by omega)).trans h139_32)
                          have h140_35 := (congrFun eμ35 140).trans ((va_up_ne _ _ (by omega)).trans h140_32)
                          have h141_35 := (congrFun eμ35 141).trans ((va_up_ne _ _ (by omega)).trans h141_32)
                          have h142_35 := (congrFun eμ35 142).trans ((va_up_ne _ _ (by omega)).trans h142_32)
                          have h143_35 := (congrFun eμ35 143).trans ((va_up_ne _ _ (by omega)).trans h143_32)
                          have h144_35 := (congrFun eμ35 144).trans ((va_up_ne _ _ (by omega)).trans h144_32)
                          have h145_35 := (congrFun eμ35 145).trans ((va_up_ne _ _ (by omega)).trans h145_32)
                          have h146_35 := (congrFun eμ35 146).trans ((va_up_ne _ _ (by omega)).trans h146_32)
                          have h147_35 := (congrFun eμ35 147).trans ((va_up_ne _ _ (by omega)).trans h147_32)
                          have h148_35 := (congrFun eμ35 148).trans ((va_up_ne _ _ (by omega)).trans h148_32)
                          refine lv_iinc (v := ((nI (i + 1)))) (lv' := [(1, .int (nI (i + 1))), (4, .int (b2 (decide (48 ≤ At S i ∧ At S i ≤ 57)))), (3, .int (nI (At S i))), (2, .int (nI ((i - 1) % 5))), (0, .ref (xa cx 136))]) hx hb dX5_readText_190 hl (k := 4) rfl (nI_add _ _) (by decide) rfl (fun ls hl => ?_)
                          refine lv_goto (tgt := 27) hx hb dX5_readText_193 (by decide) ?_
                          exact ih (i + 1) ((upd q (((4 * ((i - 1) / 5)) + ((i - 1) % 5)) - 1) ((nI ((At S i) - 48))))) μ35 _ _ _ (by omega) (by omega) (by rw [show (i + 1 - 1) / 5 = ((i - 1) / 5) + 1 by omega]; exact h136_35) h139_35 (fun z h1 h2 => by rw [eμ35, va_up_ne _ _ (by omega)]; rw [eμ32, va_up_ne _ _ (by omega)]; exact hqo z h1 h2) (by rw [hf]; show (if fitB (At S i) i = true then ff (At S) d (i + 1) else some i) = _; rw [if_pos hfit]) (rd_step hrd (by omega) (by congr 1; unfold rdv; rw [if_neg (by omega), show 2 + 5 * ((i - 1) / 5) + ((i - 1) % 5 - 1) = i by omega])) (fun p9 hp9 => (Nat.lt_or_ge p9 i).elim (fun a => hall p9 a) (fun a => by rw [show p9 = i by omega]; exact hfit)) hW (lv_sub hl [4, 0] rfl)
                      · skip
                        refine lv_iload_n hx hb dX5_readText_159 rfl (lv_at hl 1 rfl) ?_
                        refine cl_ip (cl_runS (rest := [.int (nI (((4 * ((i - 1) / 5)) + ((i - 1) % 5)) - 1)), .ref (xa cx 139)]) F hW e_X5_66 (m_deedOf hI l (At S i) (by have := hA.1.2 i (by omega); omega)) ⟨Nat.le_of_ble_eq_true rfl, Nat.le_of_ble_eq_true rfl⟩ rfl rfl hl (Nat.le_of_ble_eq_true rfl) dX5_readText_160 ⟨Nat.zero_le _, Nat.zero_le _⟩) hW (fun H locs hW => ?_)
                        refine nv_top (y := ((nI (deedN (At S i))))) (md_dn (by first | exact hm8 | exact fun z => absurd (md_no z) (by omega))) ?_
                        refine lv_goto (tgt := 170) hx hb dX5_readText_163 (by decide) ?_
                        refine nv_iastN F hW (by omega) hq (by omega) (by decide) dX5_readText_170 (fun H locs hW => ?_)
                        obtain ⟨μ36, eμ36⟩ : ∃ zz9 : ME, zz9 = va_up μ1 139 (.inl (xT cx 0, 24, .inl (upd q (((4 * ((i - 1) / 5)) + ((i - 1) % 5)) - 1) ((nI (deedN (At S i))))))) := ⟨_, rfl⟩
                        have hW : St cx s μ36 H locs := by rw [eμ36]; exact hW
                        have h136_36 := (congrFun eμ36 136).trans ((va_up_ne _ _ (by omega)).trans k136)
                        have h137_36 := (congrFun eμ36 137).trans ((va_up_ne _ _ (by omega)).trans k137)
                        have h138_36 := (congrFun eμ36 138).trans ((va_up_ne _ _ (by omega)).trans k138)
                        have h139_36 : μ36 139 = .inl (xT cx 0, 24, .inl (upd q (((4 * ((i - 1) / 5)) + ((i - 1) % 5)) - 1) ((nI (deedN (At S i)))))) := by rw [eμ36, va_up_self]
                        have h140_36 := (congrFun eμ36 140).trans ((va_up_ne _ _ (by omega)).trans k140)
                        have h141_36 := (congrFun eμ36 141).trans ((va_up_ne _ _ (by omega)).trans k141)
                        have h142_36 := (congrFun eμ36 142).trans ((va_up_ne _ _ (by omega)).trans k142)
                        have h143_36 := (congrFun eμ36 143).trans ((va_up_ne _ _ (by omega)).trans k143)
                        have h144_36 := (congrFun eμ36 144).trans ((va_up_ne _ _ (by omega)).trans k144)
                        have h145_36 := (congrFun eμ36 145).trans ((va_up_ne _ _ (by omega)).trans k145)
                        have h146_36 := (congrFun eμ36 146).trans ((va_up_ne _ _ (by omega)).trans k146)
                        have h147_36 := (congrFun eμ36 147).trans ((va_up_ne _ _ (by omega)).trans k147)
                        have h148_36 := (congrFun eμ36 148).trans ((va_up_ne _ _ (by omega)).trans k148)
                        refine lv_aload_n hx hb dX5_readText_171 rfl (lv_at hl 3 rfl) ?_
                        refine lv_dup hx hb dX5_readText_172 rfl ?_
                        refine nv_get F hW (by omega) h136_36 rfl iX5 4 (by decide) tw_633 rfl dX5_readText_173 ?_
                        refine lv_iload_n hx hb dX5_readText_176 rfl (lv_at hl 2 rfl) ?_
                        refine lv_iconst (v := nI 4) hx hb dX5_readText_177 (by decide) ?_
                        refine nv_cne (tgt := 185) F (by omega) (by omega) dX5_readText_178 (by decide) (fun c_37 => ?_) (fun c_37 => ?_)
                        · skip
                          refine lv_iconst (v := nI 0) hx hb dX5_readText_185 (by decide) ?_
                          refine nv_add F dX5_readText_186 ?_
                          refine nv_put F hW (by omega) h136_36 rfl iX5 tyX5 tyX5_ok nmX5 4 (by decide) tw_633 rfl rfl rfl (Nat.le_of_ble_eq_true rfl) dX5_readText_187 (fun H locs hW => ?_)
                          obtain ⟨μ38, eμ38⟩ : ∃ zz9 : ME, zz9 = va_up μ36 136 (.inr (5, [.int (nI (Ln (AL S))), .ref (xa cx 137), .ref (xa cx 138), .ref (xa cx 139), .int (nI (((i - 1) / 5) + 0)), .ref (xa cx 140), .int (nI (An S)), .ref (xa cx 141), .ref (xa cx 142), .int (nI (Az S)), .int (nI nx), .ref (xa cx 143), .int (nI (Ay S)), .ref (xa cx 144), .ref (xa cx 145), .ref (xa cx 146), .long (Ad S), .ref (xa cx 147), .ref (xa cx 148)])) := ⟨_, rfl⟩
                          have hW : St cx s μ38 H locs := by rw [eμ38]; exact hW
                          have h136_38 : μ38 136 = .inr (5, [.int (nI (Ln (AL S))), .ref (xa cx 137), .ref (xa cx 138), .ref (xa cx 139), .int (nI (((i - 1) / 5) + 0)), .ref (xa cx 140), .int (nI (An S)), .ref (xa cx 141), .ref (xa cx 142), .int (nI (Az S)), .int (nI nx), .ref (xa cx 143), .int (nI (Ay S)), .ref (xa cx 144), .ref (xa cx 145), .ref (xa cx 146), .long (Ad S), .ref (xa cx 147), .ref (xa cx 148)]) := by rw [eμ38, va_up_self]
                          have h137_38 := (congrFun eμ38 137).trans ((va_up_ne _ _ (by omega)).trans h137_36)
                          have h138_38 := (congrFun eμ38 138).trans ((va_up_ne _ _ (by omega)).trans h138_36)
                          have h139_38 := (congrFun eμ38 139).trans ((va_up_ne _ _ (by omega)).trans h139_36)
                          have h140_38 := (congrFun eμ38 140).trans ((va_up_ne _ _ (by omega)).trans h140_36)
                          have h141_38 := (congrFun eμ38 141).trans ((va_up_ne _ _ (by omega)).trans h141_36)
                          have h142_38 := (congrFun eμ38 142).trans ((va_up_ne _ _ (by omega)).trans h142_36)
                          have h143_38 := (congrFun eμ38 143).trans ((va_up_ne _ _ (by omega)).trans h143_36)
                          have h144_38 := (congrFun eμ38 144).trans ((va_up_ne _ _ (by omega)).trans h144_36)
                          have h145_38 := (congrFun eμ38 145).trans ((va_up_ne _ _ (by omega)).trans h145_36)
                          have h146_38 := (congrFun eμ38 146).trans ((va_up_ne _ _ (by omega)).trans h146_36)
                          have h147_38 := (congrFun eμ38 147).trans ((va_up_ne _ _ (by omega)).trans h147_36)
                          have h148_38 := (congrFun eμ38 148).trans ((va_up_ne _ _ (by omega)).trans h148_36)
                          refine lv_iinc (v := ((nI (i + 1)))) (lv' := [(1, .int (nI (i + 1))), (4, .int (b2 (decide (48 ≤ At S i ∧ At S i ≤ 57)))), (3, .int (nI (At S i))), (2, .int (nI ((i - 1) % 5))), (0, .ref (xa cx 136))]) hx hb dX5_readText_190 hl (k := 4) rfl (nI_add _ _) (by decide) rfl (fun ls hl => ?_)
                          refine lv_goto (tgt := 27) hx hb dX5_readText_193 (by decide) ?_
                          exact ih (i + 1) ((upd q (((4 * ((i - 1) / 5)) + ((i - 1) % 5)) - 1) ((nI (deedN (At S i)))))) μ38 _ _ _ (by omega) (by omega) (by rw [show (i + 1 - 1) / 5 = ((i - 1) / 5) + 0 by omega]; exact h136_38) h139_38 (fun z h1 h2 => by rw [eμ38, va_up_ne _ _ (by omega)]; rw [eμ36, va_up_ne _ _ (by omega)]; exact hqo z h1 h2) (by rw [hf]; show (if fitB (At S i) i = true then ff (At S) d (i + 1) else some i) = _; rw [if_pos hfit]) (rd_step hrd (by omega) (by congr 1; unfold rdv; rw [if_pos (by omega), show 2 + 5 * ((i - 1) / 5) + ((i - 1) % 5 - 1) = i by omega])) (fun p9 hp9 => (Nat.lt_or_ge p9 i).elim (fun a => hall p9 a) (fun a => by rw [show p9 = i by omega]; exact hfit)) hW (lv_sub hl [4, 0] rfl)
                        · skip
                          refine lv_iconst (v := nI 1) hx hb dX5_readText_181 (by decide) ?_
                          refine lv_goto (tgt := 186) hx hb dX5_readText_182 (by decide) ?_
                          refine nv_add F dX5_readText_186 ?_
                          refine nv_put F hW (by omega) h136_36 rfl iX5 tyX5 tyX5_ok nmX5 4 (by decide) tw_633 rfl rfl rfl (Nat.le_of_ble_eq_true rfl) dX5_readText_187 (fun H locs hW => ?_)
                          obtain ⟨μ39, eμ39⟩ : ∃ zz9 : ME, zz9 = va_up μ36 136 (.inr (5, [.int (nI (Ln (AL S))), .ref (xa cx 137), .ref (xa cx 138), .ref (xa cx 139), .int (nI (((i - 1) / 5) + 1)), .ref (xa cx 140), .int (nI (An S)), .ref (xa cx 141), .ref (xa cx 142), .int (nI (Az S)), .int (nI nx), .ref (xa cx 143), .int (nI (Ay S)), .ref (xa cx 144), .ref (xa cx 145), .ref (xa cx 146), .long (Ad S), .ref (xa cx 147), .ref (xa cx 148)])) := ⟨_, rfl⟩
                          have hW : St cx s μ39 H locs := by rw [eμ39]; exact hW
                          have h136_39 : μ39 136 = .inr (5, [.int (nI (Ln (AL S))), .ref (xa cx 137), .ref (xa cx 138), .ref (xa cx 139), .int (nI (((i - 1) / 5) + 1)), .ref (xa cx 140), .int (nI (An S)), .ref (xa cx 141), .ref (xa cx 142), .int (nI (Az S)), .int (nI nx), .ref (xa cx 143), .int (nI (Ay S)), .ref (xa cx 144), .ref (xa cx 145), .ref (xa cx 146), .long (Ad S), .ref (xa cx 147), .ref (xa cx 148)]) := by rw [eμ39, va_up_self]
                          have h137_39 := (congrFun eμ39 137).trans ((va_up_ne _ _ (by omega)).trans h137_36)
                          have h138_39 := (congrFun eμ39 138).trans ((va_up_ne _ _ (by omega)).trans h138_36)
                          have h139_39 := (congrFun eμ39 139).trans ((va_up_ne _ _ (by omega)).trans h139_36)
                          have h140_39 := (congrFun eμ39 140).trans ((va_up_ne _ _ (by omega)).trans h140_36)
                          have h141_39 := (congrFun eμ39 141).trans ((va_up_ne _ _ (by omega)).trans h141_36)
                          have h142_39 := (congrFun eμ39 142).trans ((va_up_ne _ _ (by omega)).trans h142_36)
                          have h143_39 := (congrFun eμ39 143).trans ((va_up_ne _ _ (by omega)).trans h143_36)
                          have h144_39 := (congrFun eμ39 144).trans ((va_up_ne _ _ (by omega)).trans h144_36)
                          have h145_39 := (congrFun eμ39 145).trans ((va_up_ne _ _ (by omega)).trans h145_36)
                          have h146_39 := (congrFun eμ39 146).trans ((va_up_ne _ _ (by omega)).trans h146_36)
                          have h147_39 := (congrFun eμ39 147).trans ((va_up_ne _ _ (by omega)).trans h147_36)
                          have h148_39 := (congrFun eμ39 148).trans ((va_up_ne _ _ (by omega)).trans h148_36)
                          refine lv_iinc (v := ((nI (i + 1)))) (lv' := [(1, .int (nI (i + 1))), (4, .int (b2 (decide (48 ≤ At S i ∧ At S i ≤ 57)))), (3, .int (nI (At S i))), (2, .int (nI ((i - 1) % 5))), (0, .ref (xa cx 136))]) hx hb dX5_readText_190 hl (k := 4) rfl (nI_add _ _) (by decide) rfl (fun ls hl => ?_)
                          refine lv_goto (tgt := 27) hx hb dX5_readText_193 (by decide) ?_
                          exact ih (i + 1) ((upd q (((4 * ((i - 1) / 5)) + ((i - 1) % 5)) - 1) ((nI (deedN (At S i)))))) μ39 _ _ _ (by omega) (by omega) (by rw [show (i + 1 - 1) / 5 = ((i - 1) / 5) + 1 by omega]; exact h136_39) h139_39 (fun z h1 h2 => by rw [eμ39, va_up_ne _ _ (by omega)]; rw [eμ36, va_up_ne _ _ (by omega)]; exact hqo z h1 h2) (by rw [hf]; show (if fitB (At S i) i = true then ff (At S) d (i + 1) else some i) = _; rw [if_pos hfit]) (rd_step hrd (by omega) (by congr 1; unfold rdv; rw [if_pos (by omega), show 2 + 5 * ((i - 1) / 5) + ((i - 1) % 5 - 1) = i by omega])) (fun p9 hp9 => (Nat.lt_or_ge p9 i).elim (fun a => hall p9 a) (fun a => by rw [show p9 = i by omega]; exact hfit)) hW (lv_sub hl [4, 0] rfl)
                  · skip
                    have hd9 := of_decide_eq_false c_26
                    have hfit : fitB (At S i) i = false := by
                      unfold fitB
                      first
                        | (rw [if_pos (by omega)]; first | exact decide_eq_true (by omega) | exact decide_eq_false (by omega))
                        | (rw [if_neg (by omega), if_pos (by omega)]; done)
                        | (rw [if_neg (by omega), if_neg (by omega), if_pos (by omega)]; first | exact decide_eq_true (by omega) | exact decide_eq_false (by omega))
                        | (rw [if_neg (by omega), if_neg (by omega), if_neg (by omega), if_pos (by omega)]; first | exact decide_eq_true (by omega) | exact decide_eq_false (by omega))
                        | (rw [if_neg (by omega), if_neg (by omega), if_neg (by omega), if_neg (by omega), if_pos (by omega)]; first | exact decide_eq_true (by omega) | exact decide_eq_false (by omega))
                        | (rw [if_neg (by omega), if_neg (by omega), if_neg (by omega), if_neg (by omega), if_neg (by omega)]; first | exact decide_eq_true (by omega) | exact decide_eq_false (by omega))
                        | (rw [if_neg (by omega)]; rcases Nat.lt_or_ge i 31 with h31 | h31; (rw [if_neg (by omega), if_pos (by omega)]; exact decide_eq_false (by omega)); rw [if_pos h31])
                    refine lv_iload_n hx hb dX5_readText_134 rfl (lv_at hl 4 rfl) ?_
                    have eF : faultI (At S) (An S) = nI i := by unfold faultI; rw [hf]; show (match (if fitB (At S i) i = true then ff (At S) d (i + 1) else some i) with | some p => nI p | none => _) = nI i; rw [hfit]; rfl
                    exact rt_ie F hr hlk hW eF.symm ⟨⟨_, nx, f1, fn, q, ft, fo, fa, frw, fh, fu, fb, fz, fkp, k136, k137, k138, hq, k140, k141, k142, k143, k144, k145, k146, k147, k148, hg, hv, ht, hnx, hrw, hse, hkp, hTr⟩, (fun z hz => by rw [hqo z (by omega) (by omega)]), fun z => absurd (eF.symm.trans z) (nI_ne (by omega) (by decide))⟩ dX5_readText_135
              · skip
                refine lv_iload_n hx hb dX5_readText_80 rfl (lv_at hl 0 rfl) ?_
                refine lv_i2l (v := lN (At S i)) hx hb dX5_readText_81 (nI_l (by have := hA.1.2 i (by omega); omega)) ?_
                refine lv_ldc2 (v := lN 48) hx hb F.1.2.2.2.1 (hts _ tw_708) dX5_readText_82 ?_
                refine lv_ldc2 (v := lN 52) hx hb F.1.2.2.2.1 (hts _ tw_709) dX5_readText_85 ?_
                refine cl_ip (cl_runS (rest := []) F hW e_X5_49 (m_in hI l ((lN (At S i))) ((lN 48)) ((lN 52))) ⟨Nat.le_of_ble_eq_true rfl, Nat.le_of_ble_eq_true rfl⟩ rfl rfl hl (Nat.le_of_ble_eq_true rfl) dX5_readText_88 ⟨Nat.zero_le _, Nat.zero_le _⟩) hW (fun H locs hW => ?_)
                refine nv_top (y := ((b2 (decide (48 ≤ At S i ∧ At S i ≤ 52))))) (congrArg b2 (inL_N (by have := hA.1.2 i (by omega); omega) (by omega) (by omega))) ?_
                refine lv_goto (tgt := 127) hx hb dX5_readText_91 (by decide) ?_
                refine lv_istore (lv' := [(4, .int (b2 (decide (48 ≤ At S i ∧ At S i ≤ 52)))), (3, .int (nI (At S i))), (2, .int (nI ((i - 1) % 5))), (0, .ref (xa cx 136)), (1, .int (nI i))]) hx hb dX5_readText_127 hl (by decide) rfl (fun ls hl => ?_)
                refine lv_iload hx hb dX5_readText_129 (lv_at hl 0 rfl) ?_
                refine nv_bne (tgt := 136) F dX5_readText_131 (by decide) (fun c_40 => ?_) (fun c_40 => ?_)
                · skip
                  have hd9 := of_decide_eq_true c_40
                  have hfit : fitB (At S i) i = true := by
                    unfold fitB
                    first
                      | (rw [if_pos (by omega)]; first | exact decide_eq_true (by omega) | exact decide_eq_false (by omega))
                      | (rw [if_neg (by omega), if_pos (by omega)]; done)
                      | (rw [if_neg (by omega), if_neg (by omega), if_pos (by omega)]; first | exact decide_eq_true (by omega) | exact decide_eq_false (by omega))
                      | (rw [if_neg (by omega), if_neg (by omega), if_neg (by omega), if_pos (by omega)]; first | exact decide_eq_true (by omega) | exact decide_eq_false (by omega))
                      | (rw [if_neg (by omega), if_neg (by omega), if_neg (by omega), if_neg (by omega), if_pos (by omega)]; first | exact decide_eq_true (by omega) | exact decide_eq_false (by omega))
                      | (rw [if_neg (by omega), if_neg (by omega), if_neg (by omega), if_neg (by omega), if_neg (by omega)]; first | exact decide_eq_true (by omega) | exact decide_eq_false (by omega))
                      | (rw [if_neg (by omega)]; rcases Nat.lt_or_ge i 31 with h31 | h31; (rw [if_neg (by omega), if_pos (by omega)]; exact decide_eq_false (by omega)); rw [if_pos h31])
                  have hi31 := fit31 hfit
                  refine lv_iload_n hx hb dX5_readText_136 rfl (lv_at hl 2 rfl) ?_
                  refine nv_zle (tgt := 171) F (by omega) dX5_readText_137 (by decide) (fun c_41 => ?_) (fun c_41 => ?_)
                  · skip
                    refine lv_aload_n hx hb dX5_readText_171 rfl (lv_at hl 3 rfl) ?_
                    refine lv_dup hx hb dX5_readText_172 rfl ?_
                    refine nv_get F hW (by omega) k136 rfl iX5 4 (by decide) tw_633 rfl dX5_readText_173 ?_
                    refine lv_iload_n hx hb dX5_readText_176 rfl (lv_at hl 2 rfl) ?_
                    refine lv_iconst (v := nI 4) hx hb dX5_readText_177 (by decide) ?_
                    refine nv_cne (tgt := 185) F (by omega) (by omega) dX5_readText_178 (by decide) (fun c_42 => ?_) (fun c_42 => ?_)
                    · skip
                      refine lv_iconst (v := nI 0) hx hb dX5_readText_185 (by decide) ?_
                      refine nv_add F dX5_readText_186 ?_
                      refine nv_put F hW (by omega) k136 rfl iX5 tyX5 tyX5_ok nmX5 4 (by decide) tw_633 rfl rfl rfl (Nat.le_of_ble_eq_true rfl) dX5_readText_187 (fun H locs hW => ?_)
                      obtain ⟨μ43, eμ43⟩ : ∃ zz9 : ME, zz9 = va_up μ1 136 (.inr (5, [.int (nI (Ln (AL S))), .ref (xa cx 137), .ref (xa cx 138), .ref (xa cx 139), .int (nI (((i - 1) / 5) + 0)), .ref (xa cx 140), .int (nI (An S)), .ref (xa cx 141), .ref (xa cx 142), .int (nI (Az S)), .int (nI nx), .ref (xa cx 143), .int (nI (Ay S)), .ref (xa cx 144), .ref (xa cx 145), .ref (xa cx 146), .long (Ad S), .ref (xa cx 147), .ref (xa cx 148)])) := ⟨_, rfl⟩
                      have hW : St cx s μ43 H locs := by rw [eμ43]; exact hW
                      have h136_43 : μ43 136 = .inr (5, [.int (nI (Ln (AL S))), .ref (xa cx 137), .ref (xa cx 138), .ref (xa cx 139), .int (nI (((i - 1) / 5) + 0)), .ref (xa cx 140), .int (nI (An S)), .ref (xa cx 141), .ref (xa cx 142), .int (nI (Az S)), .int (nI nx), .ref (xa cx 143), .int (nI (Ay S)), .ref (xa cx 144), .ref (xa cx 145), .ref (xa cx 146), .long (Ad S), .ref (xa cx 147), .ref (xa cx 148)]) := by rw [eμ43, va_up_self]
                      have h137_43 := (congrFun eμ43 137).trans ((va_up_ne _ _ (by omega)).trans k137)
                      have h138_43 := (congrFun eμ43 138).trans ((va_up_ne _ _ (by omega)).trans k138)
                      have h139_43 := (congrFun eμ43 139).trans ((va_up_ne _ _ (by omega)).trans hq)
                      have h140_43 := (congrFun eμ43 140).trans ((va_up_ne _ _ (by omega)).trans k140)
                      have h141_43 := (congrFun eμ43 141).trans ((va_up_ne _ _ (by omega)).trans k141)
                      have h142_43 := (congrFun eμ43 142).trans ((va_up_ne _ _ (by omega)).trans k142)
                      have h143_43 := (congrFun eμ43 143).trans ((va_up_ne _ _ (by omega)).trans k143)
                      have h144_43 := (congrFun eμ43 144).trans ((va_up_ne _ _ (by omega)).trans k144)
                      have h145_43 := (congrFun eμ43 145).trans ((va_up_ne _ _ (by omega)).trans k145)
                      have h146_43 := (congrFun eμ43 146).trans ((va_up_ne _ _ (by omega)).trans k146)
                      have h147_43 := (congrFun eμ43 147).trans ((va_up_ne _ _ (by omega)).trans k147)
                      have h148_43 := (congrFun eμ43 148).trans ((va_up_ne _ _ (by omega)).trans k148)
                      refine lv_iinc (v := ((nI (i + 1)))) (lv' := [(1, .int (nI (i + 1))), (4, .int (b2 (decide (48 ≤ At S i ∧ At S i ≤ 52)))), (3, .int (nI (At S i))), (2, .int (nI ((i - 1) % 5))), (0, .ref (xa cx 136))]) hx hb dX5_readText_190 hl (k := 4) rfl (nI_add _ _) (by decide) rfl (fun ls hl => ?_)
                      refine lv_goto (tgt := 27) hx hb dX5_readText_193 (by decide) ?_
                      exact ih (i + 1) q μ43 _ _ _ (by omega) (by omega) (by rw [show (i + 1 - 1) / 5 = ((i - 1) / 5) + 0 by omega]; exact h136_43) h139_43 (fun z h1 h2 => by rw [eμ43, va_up_ne _ _ (by omega)]; exact hqo z h1 h2) (by rw [hf]; show (if fitB (At S i) i = true then ff (At S) d (i + 1) else some i) = _; rw [if_pos hfit]) (fun h k hk9 hh => hrd h k hk9 (by omega)) (fun p9 hp9 => (Nat.lt_or_ge p9 i).elim (fun a => hall p9 a) (fun a => by rw [show p9 = i by omega]; exact hfit)) hW (lv_sub hl [4, 0] rfl)
                    · skip
                      refine lv_iconst (v := nI 1) hx hb dX5_readText_181 (by decide) ?_
                      refine lv_goto (tgt := 186) hx hb dX5_readText_182 (by decide) ?_
                      refine nv_add F dX5_readText_186 ?_
                      refine nv_put F hW (by omega) k136 rfl iX5 tyX5 tyX5_ok nmX5 4 (by decide) tw_633 rfl rfl rfl (Nat.le_of_ble_eq_true rfl) dX5_readText_187 (fun H locs hW => ?_)
                      obtain ⟨μ44, eμ44⟩ : ∃ zz9 : ME, zz9 = va_up μ1 136 (.inr (5, [.int (nI (Ln (AL S))), .ref (xa cx 137), .ref (xa cx 138), .ref (xa cx 139), .int (nI (((i - 1) / 5) + 1)), .ref (xa cx 140), .int (nI (An S)), .ref (xa cx 141), .ref (xa cx 142), .int (nI (Az S)), .int (nI nx), .ref (xa cx 143), .int (nI (Ay S)), .ref (xa cx 144), .ref (xa cx 145), .ref (xa cx 146), .long (Ad S), .ref (xa cx 147), .ref (xa cx 148)])) := ⟨_, rfl⟩
                      have hW : St cx s μ44 H locs := by rw [eμ44]; exact hW
                      have h136_44 : μ44 136 = .inr (5, [.int (nI (Ln (AL S))), .ref (xa cx 137), .ref (xa cx 138), .ref (xa cx 139), .int (nI (((i - 1) / 5) + 1)), .ref (xa cx 140), .int (nI (An S)), .ref (xa cx 141), .ref (xa cx 142), .int (nI (Az S)), .int (nI nx), .ref (xa cx 143), .int (nI (Ay S)), .ref (xa cx 144), .ref (xa cx 145), .ref (xa cx 146), .long (Ad S), .ref (xa cx 147), .ref (xa cx 148)]) := by rw [eμ44, va_up_self]
                      have h137_44 := (congrFun eμ44 137).trans ((va_up_ne _ _ (by omega)).trans k137)
                      have h138_44 := (congrFun eμ44 138).trans ((va_up_ne _ _ (by omega)).trans k138)
                      have h139_44 := (congrFun eμ44 139).trans ((va_up_ne _ _ (by omega)).trans hq)
                      have h140_44 := (congrFun eμ44 140).trans ((va_up_ne _ _ (by omega)).trans k140)
                      have h141_44 := (congrFun eμ44 141).trans ((va_up_ne _ _ (by omega)).trans k141)
                      have h142_44 := (congrFun eμ44 142).trans ((va_up_ne _ _ (by omega)).trans k142)
                      have h143_44 := (congrFun eμ44 143).trans ((va_up_ne _ _ (by omega)).trans k143)
                      have h144_44 := (congrFun eμ44 144).trans ((va_up_ne _ _ (by omega)).trans k144)
                      have h145_44 := (congrFun eμ44 145).trans ((va_up_ne _ _ (by omega)).trans k145)
                      have h146_44 := (congrFun eμ44 146).trans ((va_up_ne _ _ (by omega)).trans k146)
                      have h147_44 := (congrFun eμ44 147).trans ((va_up_ne _ _ (by omega)).trans k147)
                      have h148_44 := (congrFun eμ44 148).trans ((va_up_ne _ _ (by omega)).trans k148)
                      refine lv_iinc (v := ((nI (i + 1)))) (lv' := [(1, .int (nI (i + 1))), (4, .int (b2 (decide (48 ≤ At S i ∧ At S i ≤ 52)))), (3, .int (nI (At S i))), (2, .int (nI ((i - 1) % 5))), (0, .ref (xa cx 136))]) hx hb dX5_readText_190 hl (k := 4) rfl (nI_add _ _) (by decide) rfl (fun ls hl => ?_)
                      refine lv_goto (tgt := 27) hx hb dX5_readText_193 (by decide) ?_
                      exact ih (i + 1) q μ44 _ _ _ (by omega) (by omega) (by rw [show (i + 1 - 1) / 5 = ((i - 1) / 5) + 1 by omega]; exact h136_44) h139_44 (fun z h1 h2 => by rw [eμ44, va_up_ne _ _ (by omega)]; exact hqo z h1 h2) (by rw [hf]; show (if fitB (At S i) i = true then ff (At S) d (i + 1) else some i) = _; rw [if_pos hfit]) (fun h k hk9 hh => hrd h k hk9 (by omega)) (fun p9 hp9 => (Nat.lt_or_ge p9 i).elim (fun a => hall p9 a) (fun a => by rw [show p9 = i by omega]; exact hfit)) hW (lv_sub hl [4, 0] rfl)
                  · skip
                    refine lv_aload_n hx hb dX5_readText_140 rfl (lv_at hl 3 rfl) ?_
                    refine nv_get F hW (by omega) k136 rfl iX5 3 (by decide) tw_632 rfl dX5_readText_141 ?_
                    refine lv_iconst (v := nI 4) hx hb dX5_readText_144 (by decide) ?_
                    refine lv_aload_n hx hb dX5_readText_145 rfl (lv_at hl 3 rfl) ?_
                    refine nv_get F hW (by omega) k136 rfl iX5 4 (by decide) tw_633 rfl dX5_readText_146 ?_
                    refine nv_mul F dX5_readText_149 ?_
                    refine lv_iload_n hx hb dX5_readText_150 rfl (lv_at hl 2 rfl) ?_
                    refine nv_add F dX5_readText_151 ?_
                    refine lv_iconst (v := nI 1) hx hb dX5_readText_152 (by decide) ?_
                    refine nv_sub F (by omega) dX5_readText_153 ?_
                    refine lv_iload_n hx hb dX5_readText_154 rfl (lv_at hl 2 rfl) ?_
                    refine lv_iconst (v := nI 4) hx hb dX5_readText_155 (by decide) ?_
                    refine nv_cne (tgt := 166) F (by omega) (by omega) dX5_readText_156 (by decide) (fun c_45 => ?_) (fun c_45 => ?_)
                    · skip
                      refine lv_iload_n hx hb dX5_readText_166 rfl (lv_at hl 1 rfl) ?_
                      refine lv_bipush (v := nI 48) hx hb dX5_readText_167 (by decide) ?_
                      refine nv_sub F (by omega) dX5_readText_169 ?_
                      refine nv_iastN F hW (by omega) hq (by omega) (by decide) dX5_readText_170 (fun H locs hW => ?_)
                      obtain ⟨μ46, eμ46⟩ : ∃ zz9 : ME, zz9 = va_up μ1 139 (.inl (xT cx 0, 24, .inl (upd q (((4 * ((i - 1) / 5)) + ((i - 1) % 5)) - 1) ((nI ((At S i) - 48)))))) := ⟨_, rfl⟩
                      have hW : St cx s μ46 H locs := by rw [eμ46]; exact hW
                      have h136_46 := (congrFun eμ46 136).trans ((va_up_ne _ _ (by omega)).trans k136)
                      have h137_46 := (congrFun eμ46 137).trans ((va_up_ne _ _ (by omega)).trans k137)
                      have h138_46 := (congrFun eμ46 138).trans ((va_up_ne _ _ (by omega)).trans k138)
                      have h139_46 : μ46 139 = .inl (xT cx 0, 24, .inl (upd q (((4 * ((i - 1) / 5)) + ((i - 1) % 5)) - 1) ((nI ((At S i) - 48))))) := by rw [eμ46, va_up_self]
                      have h140_46 := (congrFun eμ46 140).trans ((va_up_ne _ _ (by omega)).trans k140)
                      have h141_46 := (congrFun eμ46 141).trans ((va_up_ne _ _ (by omega)).trans k141)
                      have h142_46 := (congrFun eμ46 142).trans ((va_up_ne _ _ (by omega)).trans k142)
                      have h143_46 := (congrFun eμ46 143).trans ((va_up_ne _ _ (by omega)).trans k143)
                      have h144_46 := (congrFun eμ46 144).trans ((va_up_ne _ _ (by omega)).trans k144)
                      have h145_46 := (congrFun eμ46 145).trans ((va_up_ne _ _ (by omega)).trans k145)
                      have h146_46 := (congrFun eμ46 146).trans ((va_up_ne _ _ (by omega)).trans k146)
                      have h147_46 := (congrFun eμ46 147).trans ((va_up_ne _ _ (by omega)).trans k147)
                      have h148_46 := (congrFun eμ46 148).trans ((va_up_ne _ _ (by omega)).trans k148)
                      refine lv_aload_n hx hb dX5_readText_171 rfl (lv_at hl 3 rfl) ?_
                      refine lv_dup hx hb dX5_readText_172 rfl ?_
                      refine nv_get F hW (by omega) h136_46 rfl iX5 4 (by decide) tw_633 rfl dX5_readText_173 ?_
                      refine lv_iload_n hx hb dX5_readText_176 rfl (lv_at hl 2 rfl) ?_
                      refine lv_iconst (v := nI 4) hx hb dX5_readText_177 (by decide) ?_
                      refine nv_cne (tgt := 185) F (by omega) (by omega) dX5_readText_178 (by decide) (fun c_47 => ?_) (fun c_47 => ?_)
                      · skip
                        refine lv_iconst (v := nI 0) hx hb dX5_readText_185 (by decide) ?_
                        refine nv_add F dX5_readText_186 ?_
                        refine nv_put F hW (by omega) h136_46 rfl iX5 tyX5 tyX5_ok nmX5 4 (by decide) tw_633 rfl rfl rfl (Nat.le_of_ble_eq_true rfl) dX5_readText_187 (fun H locs hW => ?_)
                        obtain ⟨μ48, eμ48⟩ : ∃ zz9 : ME, zz9 = va_up μ46 136 (.inr (5, [.int (nI (Ln (AL S))), .ref (xa cx 137), .ref (xa cx 138), .ref (xa cx 139), .int (nI (((i - 1) / 5) + 0)), .ref (xa cx 140), .int (nI (An S)), .ref (xa cx 141), .ref (xa cx 142), .int (nI (Az S)), .int (nI nx), .ref (xa cx 143), .int (nI (Ay S)), .ref (xa cx 144), .ref (xa cx 145), .ref (xa cx 146), .long (Ad S), .ref (xa cx 147), .ref (xa cx 148)])) := ⟨_, rfl⟩
                        have hW : St cx s μ48 H locs := by rw [eμ48]; exact hW
                        have h136_48 : μ48 136 = .inr (5, [.int (nI (Ln (AL S))), .ref (xa cx 137), .ref (xa cx 138), .ref (xa cx 139), .int (nI (((i - 1) / 5) + 0)), .ref (xa cx 140), .int (nI (An S)), .ref (xa cx 141), .ref (xa cx 142), .int (nI (Az S)), .int (nI nx), .ref (xa cx 143), .int (nI (Ay S)), .ref (xa cx 144), .ref (xa cx 145), .ref (xa cx 146), .long (Ad S), .ref (xa cx 147), .ref (xa cx 148)]) := by rw [eμ48, va_up_self]
                        have h137_48 := (congrFun eμ48 137).trans ((va_up_ne _ _ (by omega)).trans h137_46)
                        have h138_48 := (congrFun eμ48 138).trans ((va_up_ne _ _ (by omega)).trans h138_46)
                        have h139_48 := (congrFun eμ48 139).trans ((va_up_ne _ _ (by omega)).trans h139_46)
                        have h140_48 := (congrFun eμ48 140).trans ((va_up_ne _ _ (by omega)).trans h140_46)
                        have h141_48 := (congrFun eμ48 141).trans ((va_up_ne _ _ (by omega)).trans h141_46)
                        have h142_48 := (congrFun eμ48 142).trans ((va_up_ne _ _ (by omega)).trans h142_46)
                        have h143_48 := (congrFun eμ48 143).trans ((va_up_ne _ _ (by omega)).trans h143_46)
                        have h144_48 := (congrFun eμ48 144).trans ((va_up_ne _ _ (by omega)).trans h144_46)
                        have h145_48 := (congrFun eμ48 145).trans ((va_up_ne _ _ (by omega)).trans h145_46)
                        have h146_48 := (congrFun eμ48 146).trans ((va_up_ne _ _ (by omega)).trans h146_46)
                        have h147_48 := (congrFun eμ48 147).trans ((va_up_ne _ _ (by omega)).trans h147_46)
                        have h148_48 := (congrFun eμ48 148).trans ((va_up_ne _ _ (by omega)).trans h148_46)
                        refine lv_iinc (v := ((nI (i + 1)))) (lv' := [(1, .int (nI (i + 1))), (4, .int (b2 (decide (48 ≤ At S i ∧ At S i ≤ 52)))), (3, .int (nI (At S i))), (2, .int (nI ((i - 1) % 5))), (0, .ref (xa cx 136))]) hx hb dX5_readText_190 hl (k := 4) rfl (nI_add _ _) (by decide) rfl (fun ls hl => ?_)
                        refine lv_goto (tgt := 27) hx hb dX5_readText_193 (by decide) ?_
                        exact ih (i + 1) ((upd q (((4 * ((i - 1) / 5)) + ((i - 1) % 5)) - 1) ((nI ((At S i) - 48))))) μ48 _ _ _ (by omega) (by omega) (by rw [show (i + 1 - 1) / 5 = ((i - 1) / 5) + 0 by omega]; exact h136_48) h139_48 (fun z h1 h2 => by rw [eμ48, va_up_ne _ _ (by omega)]; rw [eμ46, va_up_ne _ _ (by omega)]; exact hqo z h1 h2) (by rw [hf]; show (if fitB (At S i) i = true then ff (At S) d (i + 1) else some i) = _; rw [if_pos hfit]) (rd_step hrd (by omega) (by congr 1; unfold rdv; rw [if_neg (by omega), show 2 + 5 * ((i - 1) / 5) + ((i - 1) % 5 - 1) = i by omega])) (fun p9 hp9 => (Nat.lt_or_ge p9 i).elim (fun a => hall p9 a) (fun a => by rw [show p9 = i by omega]; exact hfit)) hW (lv_sub hl [4, 0] rfl)
                      · skip
                        refine lv_iconst (v := nI 1) hx hb dX5_readText_181 (by decide) ?_
                        refine lv_goto (tgt := 186) hx hb dX5_readText_182 (by decide) ?_
                        refine nv_add F dX5_readText_186 ?_
                        refine nv_put F hW (by omega) h136_46 rfl iX5 tyX5 tyX5_ok nmX5 4 (by decide) tw_633 rfl rfl rfl (Nat.le_of_ble_eq_true rfl) dX5_readText_187 (fun H locs hW => ?_)
                        obtain ⟨μ49, eμ49⟩ : ∃ zz9 : ME, zz9 = va_up μ46 136 (.inr (5, [.int (nI (Ln (AL S))), .ref (xa cx 137), .ref (xa cx 138), .ref (xa cx 139), .int (nI (((i - 1) / 5) + 1)), .ref (xa cx 140), .int (nI (An S)), .ref (xa cx 141), .ref (xa cx 142), .int (nI (Az S)), .int (nI nx), .ref (xa cx 143), .int (nI (Ay S)), .ref (xa cx 144), .ref (xa cx 145), .ref (xa cx 146), .long (Ad S), .ref (xa cx 147), .ref (xa cx 148)])) := ⟨_, rfl⟩
                        have hW : St cx s μ49 H locs := by rw [eμ49]; exact hW
                        have h136_49 : μ49 136 = .inr (5, [.int (nI (Ln (AL S))), .ref (xa cx 137), .ref (xa cx 138), .ref (xa cx 139), .int (nI (((i - 1) / 5) + 1)), .ref (xa cx 140), .int (nI (An S)), .ref (xa cx 141), .ref (xa cx 142), .int (nI (Az S)), .int (nI nx), .ref (xa cx 143), .int (nI (Ay S)), .ref (xa cx 144), .ref (xa cx 145), .ref (xa cx 146), .long (Ad S), .ref (xa cx 147), .ref (xa cx 148)]) := by rw [eμ49, va_up_self]
                        have h137_49 := (congrFun eμ49 137).trans ((va_up_ne _ _ (by omega)).trans h137_46)
                        have h138_49 := (congrFun eμ49 138).trans ((va_up_ne _ _ (by omega)).trans h138_46)
                        have h139_49 := (congrFun eμ49 139).trans ((va_up_ne _ _ (by omega)).trans h139_46)
                        have h140_49 := (congrFun eμ49 140).trans ((va_up_ne _ _ (by omega)).trans h140_46)
                        have h141_49 := (congrFun eμ49 141).trans ((va_up_ne _ _ (by omega)).trans h141_46)
                        have h142_49 := (congrFun eμ49 142).trans ((va_up_ne _ _ (by omega)).trans h142_46)
                        have h143_49 := (congrFun eμ49 143).trans ((va_up_ne _ _ (by omega)).trans h143_46)
                        have h144_49 := (congrFun eμ49 144).trans ((va_up_ne _ _ (by omega)).trans h144_46)
                        have h145_49 := (congrFun eμ49 145).trans ((va_up_ne _ _ (by omega)).trans h145_46)
                        have h146_49 := (congrFun eμ49 146).trans ((va_up_ne _ _ (by omega)).trans h146_46)
                        have h147_49 := (congrFun eμ49 147).trans ((va_up_ne _ _ (by omega)).trans h147_46)
                        have h148_49 := (congrFun eμ49 148).trans ((va_up_ne _ _ (by omega)).trans h148_46)
                        refine lv_iinc (v := ((nI (i + 1)))) (lv' := [(1, .int (nI (i + 1))), (4, .int (b2 (decide (48 ≤ At S i ∧ At S i ≤ 52)))), (3, .int (nI (At S i))), (2, .int (nI ((i - 1) % 5))), (0, .ref (xa cx 136))]) hx hb dX5_readText_190 hl (k := 4) rfl (nI_add _ _) (by decide) rfl (fun ls hl => ?_)
                        refine lv_goto (tgt := 27) hx hb dX5_readText_193 (by decide) ?_
                        exact ih (i + 1) ((upd q (((4 * ((i - 1) / 5)) + ((i - 1) % 5)) - 1) ((nI ((At S i) - 48))))) μ49 _ _ _ (by omega) (by omega) (by rw [show (i + 1 - 1) / 5 = ((i - 1) / 5) + 1 by omega]; exact h136_49) h139_49 (fun z h1 h2 => by rw [eμ49, va_up_ne _ _ (by omega)]; rw [eμ46, va_up_ne _ _ (by omega)]; exact hqo z h1 h2) (by rw [hf]; show (if fitB (At S i) i = true then ff (At S) d (i + 1) else some i) = _; rw [if_pos hfit]) (rd_step hrd (by omega) (by congr 1; unfold rdv; rw [if_neg (by omega), show 2 + 5 * ((i - 1) / 5) + ((i - 1) % 5 - 1) = i by omega])) (fun p9 hp9 => (Nat.lt_or_ge p9 i).elim (fun a => hall p9 a) (fun a => by rw [show p9 = i by omega]; exact hfit)) hW (lv_sub hl [4, 0] rfl)
                    · skip
                      refine lv_iload_n hx hb dX5_readText_159 rfl (lv_at hl 1 rfl) ?_
                      refine cl_ip (cl_runS (rest := [.int (nI (((4 * ((i - 1) / 5)) + ((i - 1) % 5)) - 1)), .ref (xa cx 139)]) F hW e_X5_66 (m_deedOf hI l (At S i) (by have := hA.1.2 i (by omega); omega)) ⟨Nat.le_of_ble_eq_true rfl, Nat.le_of_ble_eq_true rfl⟩ rfl rfl hl (Nat.le_of_ble_eq_true rfl) dX5_readText_160 ⟨Nat.zero_le _, Nat.zero_le _⟩) hW (fun H locs hW => ?_)
                      refine nv_top (y := ((nI (deedN (At S i))))) (md_dn (by first | exact hm8 | exact fun z => absurd (md_no z) (by omega))) ?_
                      refine lv_goto (tgt := 170) hx hb dX5_readText_163 (by decide) ?_
                      refine nv_iastN F hW (by omega) hq (by omega) (by decide) dX5_readText_170 (fun H locs hW => ?_)
                      obtain ⟨μ50, eμ50⟩ : ∃ zz9 : ME, zz9 = va_up μ1 139 (.inl (xT cx 0, 24, .inl (upd q (((4 * ((i - 1) / 5)) + ((i - 1) % 5)) - 1) ((nI (deedN (At S i))))))) := ⟨_, rfl⟩
                      have hW : St cx s μ50 H locs := by rw [eμ50]; exact hW
                      have h136_50 := (congrFun eμ50 136).trans ((va_up_ne _ _ (by omega)).trans k136)
                      have h137_50 := (congrFun eμ50 137).trans ((va_up_ne _ _ (by omega)).trans k137)
                      have h138_50 := (congrFun eμ50 138).trans ((va_up_ne _ _ (by omega)).trans k138)
                      have h139_50 : μ50 139 = .inl (xT cx 0, 24, .inl (upd q (((4 * ((i - 1) / 5)) + ((i - 1) % 5)) - 1) ((nI (deedN (At S i)))))) := by rw [eμ50, va_up_self]
                      have h140_50 := (congrFun eμ50 140).trans ((va_up_ne _ _ (by omega)).trans k140)
                      have h141_50 := (congrFun eμ50 141).trans ((va_up_ne _ _ (by omega)).trans k141)
                      have h142_50 := (congrFun eμ50 142).trans ((va_up_ne _ _ (by omega)).trans k142)
                      have h143_50 := (congrFun eμ50 143).trans ((va_up_ne _ _ (by omega)).trans k143)
                      have h144_50 := (congrFun eμ50 144).trans ((va_up_ne _ _ (by omega)).trans k144)
                      have h145_50 := (congrFun eμ50 145).trans ((va_up_ne _ _ (by omega)).trans k145)
                      have h146_50 := (congrFun eμ50 146).trans ((va_up_ne _ _ (by omega)).trans k146)
                      have h147_50 := (congrFun eμ50 147).trans ((va_up_ne _ _ (by omega)).trans k147)
                      have h148_50 := (congrFun eμ50 148).trans ((va_up_ne _ _ (by omega)).trans k148)
                      refine lv_aload_n hx hb dX5_readText_171 rfl (lv_at hl 3 rfl) ?_
                      refine lv_dup hx hb dX5_readText_172 rfl ?_
                      refine nv_get F hW (by omega) h136_50 rfl iX5 4 (by decide) tw_633 rfl dX5_readText_173 ?_
                      refine lv_iload_n hx hb dX5_readText_176 rfl (lv_at hl 2 rfl) ?_
                      refine lv_iconst (v := nI 4) hx hb dX5_readText_177 (by decide) ?_
                      refine nv_cne (tgt := 185) F (by omega) (by omega) dX5_readText_178 (by decide) (fun c_51 => ?_) (fun c_51 => ?_)
                      · skip
                        refine lv_iconst (v := nI 0) hx hb dX5_readText_185 (by decide) ?_
                        refine nv_add F dX5_readText_186 ?_
                        refine nv_put F hW (by omega) h136_50 rfl iX5 tyX5 tyX5_ok nmX5 4 (by decide) tw_633 rfl rfl rfl (Nat.le_of_ble_eq_true rfl) dX5_readText_187 (fun H locs hW => ?_)
                        obtain ⟨μ52, eμ52⟩ : ∃ zz9 : ME, zz9 = va_up μ50 136 (.inr (5, [.int (nI (Ln (AL S))), .ref (xa cx 137), .ref (xa cx 138), .ref (xa cx 139), .int (nI (((i - 1) / 5) + 0)), .ref (xa cx 140), .int (nI (An S)), .ref (xa cx 141), .ref (xa cx 142), .int (nI (Az S)), .int (nI nx), .ref (xa cx 143), .int (nI (Ay S)), .ref (xa cx 144), .ref (xa cx 145), .ref (xa cx 146), .long (Ad S), .ref (xa cx 147), .ref (xa cx 148)])) := ⟨_, rfl⟩
                        have hW : St cx s μ52 H locs := by rw [eμ52]; exact hW
                        have h136_52 : μ52 136 = .inr (5, [.int (nI (Ln (AL S))), .ref (xa cx 137), .ref (xa cx 138), .ref (xa cx 139), .int (nI (((i - 1) / 5) + 0)), .ref (xa cx 140), .int (nI (An S)), .ref (xa cx 141), .ref (xa cx 142), .int (nI (Az S)), .int (nI nx), .ref (xa cx 143), .int (nI (Ay S)), .ref (xa cx 144), .ref (xa cx 145), .ref (xa cx 146), .long (Ad S), .ref (xa cx 147), .ref (xa cx 148)]) := by rw [eμ52, va_up_self]
                        have h137_52 := (congrFun eμ52 137).trans ((va_up_ne _ _ (by omega)).trans h137_50)
                        have h138_52 := (congrFun eμ52 138).trans ((va_up_ne _ _ (by omega)).trans h138_50)
                        have h139_52 := (congrFun eμ52 139).trans ((va_up_ne _ _ (by omega)).trans h139_50)
                        have h140_52 := (congrFun eμ52 140).trans ((va_up_ne _ _ (by omega)).trans h140_50)
                        have h141_52 := (congrFun eμ52 141).trans ((va_up_ne _ _ (by omega)).trans h141_50)
                        have h142_52 := (congrFun eμ52 142).trans ((va_up_ne _ _ (by omega)).trans h142_50)
                        have h143_52 := (congrFun eμ52 143).trans ((va_up_ne _ _ (by omega)).trans h143_50)
                        have h144_52 := (congrFun eμ52 144).trans ((va_up_ne _ _ (by omega)).trans h144_50)
                        have h145_52 := (congrFun eμ52 145).trans ((va_up_ne _ _ (by omega)).trans h145_50)
                        have h146_52 := (congrFun eμ52 146).trans ((va_up_ne _ _ (by omega)).trans h146_50)
                        have h147_52 := (congrFun eμ52 147).trans ((va_up_ne _ _ (by omega)).trans h147_50)
                        have h148_52 := (congrFun eμ52 148).trans ((va_up_ne _ _ (by omega)).trans h148_50)
                        refine lv_iinc (v := ((nI (i + 1)))) (lv' := [(1, .int (nI (i + 1))), (4, .int (b2 (decide (48 ≤ At S i ∧ At S i ≤ 52)))), (3, .int (nI (At S i))), (2, .int (nI ((i - 1) % 5))), (0, .ref (xa cx 136))]) hx hb dX5_readText_190 hl (k := 4) rfl (nI_add _ _) (by decide) rfl (fun ls hl => ?_)
                        refine lv_goto (tgt := 27) hx hb dX5_readText_193 (by decide) ?_
                        exact ih (i + 1) ((upd q (((4 * ((i - 1) / 5)) + ((i - 1) % 5)) - 1) ((nI (deedN (At S i)))))) μ52 _ _ _ (by omega) (by omega) (by rw [show (i + 1 - 1) / 5 = ((i - 1) / 5) + 0 by omega]; exact h136_52) h139_52 (fun z h1 h2 => by rw [eμ52, va_up_ne _ _ (by omega)]; rw [eμ50, va_up_ne _ _ (by omega)]; exact hqo z h1 h2) (by rw [hf]; show (if fitB (At S i) i = true then ff (At S) d (i + 1) else some i) = _; rw [if_pos hfit]) (rd_step hrd (by omega) (by congr 1; unfold rdv; rw [if_pos (by omega), show 2 + 5 * ((i - 1) / 5) + ((i - 1) % 5 - 1) = i by omega])) (fun p9 hp9 => (Nat.lt_or_ge p9 i).elim (fun a => hall p9 a) (fun a => by rw [show p9 = i by omega]; exact hfit)) hW (lv_sub hl [4, 0] rfl)
                      · skip
                        refine lv_iconst (v := nI 1) hx hb dX5_readText_181 (by decide) ?_
                        refine lv_goto (tgt := 186) hx hb dX5_readText_182 (by decide) ?_
                        refine nv_add F dX5_readText_186 ?_
                        refine nv_put F hW (by omega) h136_50 rfl iX5 tyX5 tyX5_ok nmX5 4 (by decide) tw_633 rfl rfl rfl (Nat.le_of_ble_eq_true rfl) dX5_readText_187 (fun H locs hW => ?_)
                        obtain ⟨μ53, eμ53⟩ : ∃ zz9 : ME, zz9 = va_up μ50 136 (.inr (5, [.int (nI (Ln (AL S))), .ref (xa cx 137), .ref (xa cx 138), .ref (xa cx 139), .int (nI (((i - 1) / 5) + 1)), .ref (xa cx 140), .int (nI (An S)), .ref (xa cx 141), .ref (xa cx 142), .int (nI (Az S)), .int (nI nx), .ref (xa cx 143), .int (nI (Ay S)), .ref (xa cx 144), .ref (xa cx 145), .ref (xa cx 146), .long (Ad S), .ref (xa cx 147), .ref (xa cx 148)])) := ⟨_, rfl⟩
                        have hW : St cx s μ53 H locs := by rw [eμ53]; exact hW
                        have h136_53 : μ53 136 = .inr (5, [.int (nI (Ln (AL S))), .ref (xa cx 137), .ref (xa cx 138), .ref (xa cx 139), .int (nI (((i - 1) / 5) + 1)), .ref (xa cx 140), .int (nI (An S)), .ref (xa cx 141), .ref (xa cx 142), .int (nI (Az S)), .int (nI nx), .ref (xa cx 143), .int (nI (Ay S)), .ref (xa cx 144), .ref (xa cx 145), .ref (xa cx 146), .long (Ad S), .ref (xa cx 147), .ref (xa cx 148)]) := by rw [eμ53, va_up_self]
                        have h137_53 := (congrFun eμ53 137).trans ((va_up_ne _ _ (by omega)).trans h137_50)
                        have h138_53 := (congrFun eμ53 138).trans ((va_up_ne _ _ (by omega)).trans h138_50)
                        have h139_53 := (congrFun eμ53 139).trans ((va_up_ne _ _ (by omega)).trans h139_50)
                        have h140_53 := (congrFun eμ53 140).trans ((va_up_ne _ _ (by omega)).trans h140_50)
                        have h141_53 := (congrFun eμ53 141).trans ((va_up_ne _ _ (by omega)).trans h141_50)
                        have h142_53 := (congrFun eμ53 142).trans ((va_up_ne _ _ (by omega)).trans h142_50)
                        have h143_53 := (congrFun eμ53 143).trans ((va_up_ne _ _ (by omega)).trans h143_50)
                        have h144_53 := (congrFun eμ53 144).trans ((va_up_ne _ _ (by omega)).trans h144_50)
                        have h145_53 := (congrFun eμ53 145).trans ((va_up_ne _ _ (by omega)).trans h145_50)
                        have h146_53 := (congrFun eμ53 146).trans ((va_up_ne _ _ (by omega)).trans h146_50)
                        have h147_53 := (congrFun eμ53 147).trans ((va_up_ne _ _ (by omega)).trans h147_50)
                        have h148_53 := (congrFun eμ53 148).trans ((va_up_ne _ _ (by omega)).trans h148_50)
                        refine lv_iinc (v := ((nI (i + 1)))) (lv' := [(1, .int (nI (i + 1))), (4, .int (b2 (decide (48 ≤ At S i ∧ At S i ≤ 52)))), (3, .int (nI (At S i))), (2, .int (nI ((i - 1) % 5))), (0, .ref (xa cx 136))]) hx hb dX5_readText_190 hl (k := 4) rfl (nI_add _ _) (by decide) rfl (fun ls hl => ?_)
                        refine lv_goto (tgt := 27) hx hb dX5_readText_193 (by decide) ?_
                        exact ih (i + 1) ((upd q (((4 * ((i - 1) / 5)) + ((i - 1) % 5)) - 1) ((nI (deedN (At S i)))))) μ53 _ _ _ (by omega) (by omega) (by rw [show (i + 1 - 1) / 5 = ((i - 1) / 5) + 1 by omega]; exact h136_53) h139_53 (fun z h1 h2 => by rw [eμ53, va_up_ne _ _ (by omega)]; rw [eμ50, va_up_ne _ _ (by omega)]; exact hqo z h1 h2) (by rw [hf]; show (if fitB (At S i) i = true then ff (At S) d (i + 1) else some i) = _; rw [if_pos hfit]) (rd_step hrd (by omega) (by congr 1; unfold rdv; rw [if_pos (by omega), show 2 + 5 * ((i - 1) / 5) + ((i - 1) % 5 - 1) = i by omega])) (fun p9 hp9 => (Nat.lt_or_ge p9 i).elim (fun a => hall p9 a) (fun a => by rw [show p9 = i by omega]; exact hfit)) hW (lv_sub hl [4, 0] rfl)
                · skip
                  have hd9 := of_decide_eq_false c_40
                  have hfit : fitB (At S i) i = false := by
                    unfold fitB
                    first
                      | (rw [if_pos (by omega)]; first | exact decide_eq_true (by omega) | exact decide_eq_false (by omega))
                      | (rw [if_neg (by omega), if_pos (by omega)]; done)
                      | (rw [if_neg (by omega), if_neg (by omega), if_pos (by omega)]; first | exact decide_eq_true (by omega) | exact decide_eq_false (by omega))
                      | (rw [if_neg (by omega), if_neg (by omega), if_neg (by omega), if_pos (by omega)]; first | exact decide_eq_true (by omega) | exact decide_eq_false (by omega))
                      | (rw [if_neg (by omega), if_neg (by omega), if_neg (by omega), if_neg (by omega), if_pos (by omega)]; first | exact decide_eq_true (by omega) | exact decide_eq_false (by omega))
                      | (rw [if_neg (by omega), if_neg (by omega), if_neg (by omega), if_neg (by omega), if_neg (by omega)]; first | exact decide_eq_true (by omega) | exact decide_eq_false (by omega))
                      | (rw [if_neg (by omega)]; rcases Nat.lt_or_ge i 31 with h31 | h31; (rw [if_neg (by omega), if_pos (by omega)]; exact decide_eq_false (by omega)); rw [if_pos h31])
                  refine lv_iload_n hx hb dX5_readText_134 rfl (lv_at hl 4 rfl) ?_
                  have eF : faultI (At S) (An S) = nI i := by unfold faultI; rw [hf]; show (match (if fitB (At S i) i = true then ff (At S) d (i + 1) else some i) with | some p => nI p | none => _) = nI i; rw [hfit]; rfl
                  exact rt_ie F hr hlk hW eF.symm ⟨⟨_, nx, f1, fn, q, ft, fo, fa, frw, fh, fu, fb, fz, fkp, k136, k137, k138, hq, k140, k141, k142, k143, k144, k145, k146, k147, k148, hg, hv, ht, hnx, hrw, hse, hkp, hTr⟩, (fun z hz => by rw [hqo z (by omega) (by omega)]), fun z => absurd (eF.symm.trans z) (nI_ne (by omega) (by decide))⟩ dX5_readText_135
            · skip
              refine lv_iload_n hx hb dX5_readText_52 rfl (lv_at hl 0 rfl) ?_
              refine lv_bipush (v := nI 72) hx hb dX5_readText_53 (by decide) ?_
              refine nv_cne (tgt := 71) F (by have := hA.1.2 i (by omega); omega) (by omega) dX5_readText_55 (by decide) (fun c_54 => ?_) (fun c_54 => ?_)
              · skip
                refine lv_iconst (v := nI 0) hx hb dX5_readText_71 (by decide) ?_
                refine lv_goto (tgt := 127) hx hb dX5_readText_72 (by decide) ?_
                refine lv_istore (lv' := [(4, .int (nI 0)), (3, .int (nI (At S i))), (2, .int (nI ((i - 1) % 5))), (0, .ref (xa cx 136)), (1, .int (nI i))]) hx hb dX5_readText_127 hl (by decide) rfl (fun ls hl => ?_)
                refine lv_iload hx hb dX5_readText_129 (lv_at hl 0 rfl) ?_
                refine nv_zne (tgt := 136) F (by decide) dX5_readText_131 (by decide) (fun c_55 => ?_) (fun c_55 => ?_)
                · skip
                  exact absurd c_55 (by decide)
                · skip
                  have hfit : fitB (At S i) i = false := by
                    unfold fitB
                    first
                      | (rw [if_pos (by omega)]; first | exact decide_eq_true (by omega) | exact decide_eq_false (by omega))
                      | (rw [if_neg (by omega), if_pos (by omega)]; done)
                      | (rw [if_neg (by omega), if_neg (by omega), if_pos (by omega)]; first | exact decide_eq_true (by omega) | exact decide_eq_false (by omega))
                      | (rw [if_neg (by omega), if_neg (by omega), if_neg (by omega), if_pos (by omega)]; first | exact decide_eq_true (by omega) | exact decide_eq_false (by omega))
                      | (rw [if_neg (by omega), if_neg (by omega), if_neg (by omega), if_neg (by omega), if_pos (by omega)]; first | exact decide_eq_true (by omega) | exact decide_eq_false (by omega))
                      | (rw [if_neg (by omega), if_neg (by omega), if_neg (by omega), if_neg (by omega), if_neg (by omega)]; first | exact decide_eq_true (by omega) | exact decide_eq_false (by omega))
                      | (rw [if_neg (by omega)]; rcases Nat.lt_or_ge i 31 with h31 | h31; (rw [if_neg (by omega), if_pos (by omega)]; exact decide_eq_false (by omega)); rw [if_pos h31])
                  refine lv_iload_n hx hb dX5_readText_134 rfl (lv_at hl 4 rfl) ?_
                  have eF : faultI (At S) (An S) = nI i := by unfold faultI; rw [hf]; show (match (if fitB (At S i) i = true then ff (At S) d (i + 1) else some i) with | some p => nI p | none => _) = nI i; rw [hfit]; rfl
                  exact rt_ie F hr hlk hW eF.symm ⟨⟨_, nx, f1, fn, q, ft, fo, fa, frw, fh, fu, fb, fz, fkp, k136, k137, k138, hq, k140, k141, k142, k143, k144, k145, k146, k147, k148, hg, hv, ht, hnx, hrw, hse, hkp, hTr⟩, (fun z hz => by rw [hqo z (by omega) (by omega)]), fun z => absurd (eF.symm.trans z) (nI_ne (by omega) (by decide))⟩ dX5_readText_135
              · skip
                refine lv_aload_n hx hb dX5_readText_58 rfl (lv_at hl 2 rfl) ?_
                refine nv_get F hW (by omega) k136 rfl iX5 4 (by decide) tw_633 rfl dX5_readText_59 ?_
                refine lv_bipush (v := nI 6) hx hb dX5_readText_62 (by decide) ?_
                refine nv_cge (tgt := 71) F (by omega) (by omega) dX5_readText_64 (by decide) (fun c_56 => ?_) (fun c_56 => ?_)
                · skip
                  refine lv_iconst (v := nI 0) hx hb dX5_readText_71 (by decide) ?_
                  refine lv_goto (tgt := 127) hx hb dX5_readText_72 (by decide) ?_
                  refine lv_istore (lv' := [(4, .int (nI 0)), (3, .int (nI (At S i))), (2, .int (nI ((i - 1) % 5))), (0, .ref (xa cx 136)), (1, .int (nI i))]) hx hb dX5_readText_127 hl (by decide) rfl (fun ls hl => ?_)
                  refine lv_iload hx hb dX5_readText_129 (lv_at hl 0 rfl) ?_
                  refine nv_zne (tgt := 136) F (by decide) dX5_readText_131 (by decide) (fun c_57 => ?_) (fun c_57 => ?_)
                  · skip
                    exact absurd c_57 (by decide)
                  · skip
                    have hfit : fitB (At S i) i = false := by
                      unfold fitB
                      first
                        | (rw [if_pos (by omega)]; first | exact decide_eq_true (by omega) | exact decide_eq_false (by omega))
                        | (rw [if_neg (by omega), if_pos (by omega)]; done)
                        | (rw [if_neg (by omega), if_neg (by omega), if_pos (by omega)]; first | exact decide_eq_true (by omega) | exact decide_eq_false (by omega))
                        | (rw [if_neg (by omega), if_neg (by omega), if_neg (by omega), if_pos (by omega)]; first | exact decide_eq_true (by omega) | exact decide_eq_false (by omega))
                        | (rw [if_neg (by omega), if_neg (by omega), if_neg (by omega), if_neg (by omega), if_pos (by omega)]; first | exact decide_eq_true (by omega) | exact decide_eq_false (by omega))
                        | (rw [if_neg (by omega), if_neg (by omega), if_neg (by omega), if_neg (by omega), if_neg (by omega)]; first | exact decide_eq_true (by omega) | exact decide_eq_false (by omega))
                        | (rw [if_neg (by omega)]; rcases Nat.lt_or_ge i 31 with h31 | h31; (rw [if_neg (by omega), if_pos (by omega)]; exact decide_eq_false (by omega)); rw [if_pos h31])
                    refine lv_iload_n hx hb dX5_readText_134 rfl (lv_at hl 4 rfl) ?_
                    have eF : faultI (At S) (An S) = nI i := by unfold faultI; rw [hf]; show (match (if fitB (At S i) i = true then ff (At S) d (i + 1) else some i) with | some p => nI p | none => _) = nI i; rw [hfit]; rfl
                    exact rt_ie F hr hlk hW eF.symm ⟨⟨_, nx, f1, fn, q, ft, fo, fa, frw, fh, fu, fb, fz, fkp, k136, k137, k138, hq, k140, k141, k142, k143, k144, k145, k146, k147, k148, hg, hv, ht, hnx, hrw, hse, hkp, hTr⟩, (fun z hz => by rw [hqo z (by omega) (by omega)]), fun z => absurd (eF.symm.trans z) (nI_ne (by omega) (by decide))⟩ dX5_readText_135
                · skip
                  refine lv_iconst (v := nI 1) hx hb dX5_readText_67 (by decide) ?_
                  refine lv_goto (tgt := 127) hx hb dX5_readText_68 (by decide) ?_
                  refine lv_istore (lv' := [(4, .int (nI 1)), (3, .int (nI (At S i))), (2, .int (nI ((i - 1) % 5))), (0, .ref (xa cx 136)), (1, .int (nI i))]) hx hb dX5_readText_127 hl (by decide) rfl (fun ls hl => ?_)
                  refine lv_iload hx hb dX5_readText_129 (lv_at hl 0 rfl) ?_
                  refine nv_zne (tgt := 136) F (by decide) dX5_readText_131 (by decide) (fun c_58 => ?_) (fun c_58 => ?_)
                  · skip
                    have hfit : fitB (At S i) i = true := by
                      unfold fitB
                      first
                        | (rw [if_pos (by omega)]; first | exact decide_eq_true (by omega) | exact decide_eq_false (by omega))
                        | (rw [if_neg (by omega), if_pos (by omega)]; done)
                        | (rw [if_neg (by omega), if_neg (by omega), if_pos (by omega)]; first | exact decide_eq_true (by omega) | exact decide_eq_false (by omega))
                        | (rw [if_neg (by omega), if_neg (by omega), if_neg (by omega), if_pos (by omega)]; first | exact decide_eq_true (by omega) | exact decide_eq_false (by omega))
                        | (rw [if_neg (by omega), if_neg (by omega), if_neg (by omega), if_neg (by omega), if_pos (by omega)]; first | exact decide_eq_true (by omega) | exact decide_eq_false (by omega))
                        | (rw [if_neg (by omega), if_neg (by omega), if_neg (by omega), if_neg (by omega), if_neg (by omega)]; first | exact decide_eq_true (by omega) | exact decide_eq_false (by omega))
                        | (rw [if_neg (by omega)]; rcases Nat.lt_or_ge i 31 with h31 | h31; (rw [if_neg (by omega), if_pos (by omega)]; exact decide_eq_false (by omega)); rw [if_pos h31])
                    have hi31 := fit31 hfit
                    refine lv_iload_n hx hb dX5_readText_136 rfl (lv_at hl 2 rfl) ?_
                    refine nv_zle (tgt := 171) F (by omega) dX5_readText_137 (by decide) (fun c_59 => ?_) (fun c_59 => ?_)
                    · skip
                      refine lv_aload_n hx hb dX5_readText_171 rfl (lv_at hl 3 rfl) ?_
                      refine lv_dup hx hb dX5_readText_172 rfl ?_
                      refine nv_get F hW (by omega) k136 rfl iX5 4 (by decide) tw_633 rfl dX5_readText_173 ?_
                      refine lv_iload_n hx hb dX5_readText_176 rfl (lv_at hl 2 rfl) ?_
                      refine lv_iconst (v := nI 4) hx hb dX5_readText_177 (by decide) ?_
                      refine nv_cne (tgt := 185) F (by omega) (by omega) dX5_readText_178 (by decide) (fun c_60 => ?_) (fun c_60 => ?_)
                      · skip
                        refine lv_iconst (v := nI 0) hx hb dX5_readText_185 (by decide) ?_
                        refine nv_add F dX5_readText_186 ?_
                        refine nv_put F hW (by omega) k136 rfl iX5 tyX5 tyX5_ok nmX5 4 (by decide) tw_633 rfl rfl rfl (Nat.le_of_ble_eq_true rfl) dX5_readText_187 (fun H locs hW => ?_)
                        obtain ⟨μ61, eμ61⟩ : ∃ zz9 : ME, zz9 = va_up μ1 136 (.inr (5, [.int (nI (Ln (AL S))), .ref (xa cx 137), .ref (xa cx 138), .ref (xa cx 139), .int (nI (((i - 1) / 5) + 0)), .ref (xa cx 140), .int (nI (An S)), .ref (xa cx 141), .ref (xa cx 142), .int (nI (Az S)), .int (nI nx), .ref (xa cx 143), .int (nI (Ay S)), .ref (xa cx 144), .ref (xa cx 145), .ref (xa cx 146), .long (Ad S), .ref (xa cx 147), .ref (xa cx 148)])) := ⟨_, rfl⟩
                        have hW : St cx s μ61 H locs := by rw [eμ61]; exact hW
                        have h136_61 : μ61 136 = .inr (5, [.int (nI (Ln (AL S))), .ref (xa cx 137), .ref (xa cx 138), .ref (xa cx 139), .int (nI (((i - 1) / 5) + 0)), .ref (xa cx 140), .int (nI (An S)), .ref (xa cx 141), .ref (xa cx 142), .int (nI (Az S)), .int (nI nx), .ref (xa cx 143), .int (nI (Ay S)), .ref (xa cx 144), .ref (xa cx 145), .ref (xa cx 146), .long (Ad S), .ref (xa cx 147), .ref (xa cx 148)]) := by rw [eμ61, va_up_self]
                        have h137_61 := (congrFun eμ61 137).trans ((va_up_ne _ _ (by omega)).trans k137)
                        have h138_61 := (congrFun eμ61 138).trans ((va_up_ne _ _ (by omega)).trans k138)
                        have h139_61 := (congrFun eμ61 139).trans ((va_up_ne _ _ (by omega)).trans hq)
                        have h140_61 := (congrFun eμ61 140).trans ((va_up_ne _ _ (by omega)).trans k140)
                        have h141_61 := (congrFun eμ61 141).trans ((va_up_ne _ _ (by omega)).trans k141)
                        have h142_61 := (congrFun eμ61 142).trans ((va_up_ne _ _ (by omega)).trans k142)
                        have h143_61 := (congrFun eμ61 143).trans ((va_up_ne _ _ (by omega)).trans k143)
                        have h144_61 := (congrFun eμ61 144).trans ((va_up_ne _ _ (by omega)).trans k144)
                        have h145_61 := (congrFun eμ61 145).trans ((va_up_ne _ _ (by omega)).trans k145)
                        have h146_61 := (congrFun eμ61 146).trans ((va_up_ne _ _ (by omega)).trans k146)
                        have h147_61 := (congrFun eμ61 147).trans ((va_up_ne _ _ (by omega)).trans k147)
                        have h148_61 := (congrFun eμ61 148).trans ((va_up_ne _ _ (by omega)).trans k148)
                        refine lv_iinc (v := ((nI (i + 1)))) (lv' := [(1, .int (nI (i + 1))), (4, .int (nI 1)), (3, .int (nI (At S i))), (2, .int (nI ((i - 1) % 5))), (0, .ref (xa cx 136))]) hx hb dX5_readText_190 hl (k := 4) rfl (nI_add _ _) (by decide) rfl (fun ls hl => ?_)
                        refine lv_goto (tgt := 27) hx hb dX5_readText_193 (by decide) ?_
                        exact ih (i + 1) q μ61 _ _ _ (by omega) (by omega) (by rw [show (i + 1 - 1) / 5 = ((i - 1) / 5) + 0 by omega]; exact h136_61) h139_61 (fun z h1 h2 => by rw [eμ61, va_up_ne _ _ (by omega)]; exact hqo z h1 h2) (by rw [hf]; show (if fitB (At S i) i = true then ff (At S) d (i + 1) else some i) = _; rw [if_pos hfit]) (fun h k hk9 hh => hrd h k hk9 (by omega)) (fun p9 hp9 => (Nat.lt_or_ge p9 i).elim (fun a => hall p9 a) (fun a => by rw [show p9 = i by omega]; exact hfit)) hW (lv_sub hl [4, 0] rfl)
                      · skip
                        refine lv_iconst (v := nI 1) hx hb dX5_readText_181 (by decide) ?_
                        refine lv_goto (tgt := 186) hx hb dX5_readText_182 (by decide) ?_
                        refine nv_add F dX5_readText_186 ?_
                        refine nv_put F hW (by omega) k136 rfl iX5 tyX5 tyX5_ok nmX5 4 (by decide) tw_633 rfl rfl rfl (Nat.le_of_ble_eq_true rfl) dX5_readText_187 (fun H locs hW => ?_)
                        obtain ⟨μ62, eμ62⟩ : ∃ zz9 : ME, zz9 = va_up μ1 136 (.inr (5, [.int (nI (Ln (AL S))), .ref (xa cx 137), .ref (xa cx 138), .ref (xa cx 139), .int (nI (((i - 1) / 5) + 1)), .ref (xa cx 140), .int (nI (An S)), .ref (xa cx 141), .ref (xa cx 142), .int (nI (Az S)), .int (nI nx), .ref (xa cx 143), .int (nI (Ay S)), .ref (xa cx 144), .ref (xa cx 145), .ref (xa cx 146), .long (Ad S), .ref (xa cx 147), .ref (xa cx 148)])) := ⟨_, rfl⟩
                        have hW : St cx s μ62 H locs := by rw [eμ62]; exact hW
                        have h136_62 : μ62 136 = .inr (5, [.int (nI (Ln (AL S))), .ref (xa cx 137), .ref (xa cx 138), .ref (xa cx 139), .int (nI (((i - 1) / 5) + 1)), .ref (xa cx 140), .int (nI (An S)), .ref (xa cx 141), .ref (xa cx 142), .int (nI (Az S)), .int (nI nx), .ref (xa cx 143), .int (nI (Ay S)), .ref (xa cx 144), .ref (xa cx 145), .ref (xa cx 146), .long (Ad S), .ref (xa cx 147), .ref (xa cx 148)]) := by rw [eμ62, va_up_self]
                        have h137_62 := (congrFun eμ62 137).trans ((va_up_ne _ _ (by omega)).trans k137)
                        have h138_62 := (congrFun eμ62 138).trans ((va_up_ne _ _ (by omega)).trans k138)
                        have h139_62 := (congrFun eμ62 139).trans ((va_up_ne _ _ (by omega)).trans hq)
                        have h140_62 := (congrFun eμ62 140).trans ((va_up_ne _ _ (by omega)).trans k140)
                        have h141_62 := (congrFun eμ62 141).trans ((va_up_ne _ _ (by omega)).trans k141)
                        have h142_62 := (congrFun eμ62 142).trans ((va_up_ne _ _ (by omega)).trans k142)
                        have h143_62 := (congrFun eμ62 143).trans ((va_up_ne _ _ (by omega)).trans k143)
                        have h144_62 := (congrFun eμ62 144).trans ((va_up_ne _ _ (by omega)).trans k144)
                        have h145_62 := (congrFun eμ62 145).trans ((va_up_ne _ _ (by omega)).trans k145)
                        have h146_62 := (congrFun eμ62 146).trans ((va_up_ne _ _ (by omega)).trans k146)
                        have h147_62 := (congrFun eμ62 147).trans ((va_up_ne _ _ (by omega)).trans k147)
                        have h148_62 := (congrFun eμ62 148).trans ((va_up_ne _ _ (by omega)).trans k148)
                        refine lv_iinc (v := ((nI (i + 1)))) (lv' := [(1, .int (nI (i + 1))), (4, .int (nI 1)), (3, .int (nI (At S i))), (2, .int (nI ((i - 1) % 5))), (0, .ref (xa cx 136))]) hx hb dX5_readText_190 hl (k := 4) rfl (nI_add _ _) (by decide) rfl (fun ls hl => ?_)
                        refine lv_goto (tgt := 27) hx hb dX5_readText_193 (by decide) ?_
                        exact ih (i + 1) q μ62 _ _ _ (by omega) (by omega) (by rw [show (i + 1 - 1) / 5 = ((i - 1) / 5) + 1 by omega]; exact h136_62) h139_62 (fun z h1 h2 => by rw [eμ62, va_up_ne _ _ (by omega)]; exact hqo z h1 h2) (by rw [hf]; show (if fitB (At S i) i = true then ff (At S) d (i + 1) else some i) = _; rw [if_pos hfit]) (fun h k hk9 hh => hrd h k hk9 (by omega)) (fun p9 hp9 => (Nat.lt_or_ge p9 i).elim (fun a => hall p9 a) (fun a => by rw [show p9 = i by omega]; exact hfit)) hW (lv_sub hl [4, 0] rfl)
                    · skip
                      refine lv_aload_n hx hb dX5_readText_140 rfl (lv_at hl 3 rfl) ?_
                      refine nv_get F hW (by omega) k136 rfl iX5 3 (by decide) tw_632 rfl dX5_readText_141 ?_
                      refine lv_iconst (v := nI 4) hx hb dX5_readText_144 (by decide) ?_
                      refine lv_aload_n hx hb dX5_readText_145 rfl (lv_at hl 3 rfl) ?_
                      refine nv_get F hW (by omega) k136 rfl iX5 4 (by decide) tw_633 rfl dX5_readText_146 ?_
                      refine nv_mul F dX5_readText_149 ?_
                      refine lv_iload_n hx hb dX5_readText_150 rfl (lv_at hl 2 rfl) ?_
                      refine nv_add F dX5_readText_151 ?_
                      refine lv_iconst (v := nI 1) hx hb dX5_readText_152 (by decide) ?_
                      refine nv_sub F (by omega) dX5_readText_153 ?_
                      refine lv_iload_n hx hb dX5_readText_154 rfl (lv_at hl 2 rfl) ?_
                      refine lv_iconst (v := nI 4) hx hb dX5_readText_155 (by decide) ?_
                      refine nv_cne (tgt := 166) F (by omega) (by omega) dX5_readText_156 (by decide) (fun c_63 => ?_) (fun c_63 => ?_)
                      · skip
                        refine lv_iload_n hx hb dX5_readText_166 rfl (lv_at hl 1 rfl) ?_
                        refine lv_bipush (v := nI 48) hx hb dX5_readText_167 (by decide) ?_
                        refine nv_sub F (by omega) dX5_readText_169 ?_
                        refine nv_iastN F hW (by omega) hq (by omega) (by decide) dX5_readText_170 (fun H locs hW => ?_)
                        obtain ⟨μ64, eμ64⟩ : ∃ zz9 : ME, zz9 = va_up μ1 139 (.inl (xT cx 0, 24, .inl (upd q (((4 * ((i - 1) / 5)) + ((i - 1) % 5)) - 1) ((nI ((At S i) - 48)))))) := ⟨_, rfl⟩
                        have hW : St cx s μ64 H locs := by rw [eμ64]; exact hW
                        have h136_64 := (congrFun eμ64 136).trans ((va_up_ne _ _ (by omega)).trans k136)
                        have h137_64 := (congrFun eμ64 137).trans ((va_up_ne _ _ (by omega)).trans k137)
                        have h138_64 := (congrFun eμ64 138).trans ((va_up_ne _ _ (by omega)).trans k138)
                        have h139_64 : μ64 139 = .inl (xT cx 0, 24, .inl (upd q (((4 * ((i - 1) / 5)) + ((i - 1) % 5)) - 1) ((nI ((At S i) - 48))))) := by rw [eμ64, va_up_self]
                        have h140_64 := (congrFun eμ64 140).trans ((va_up_ne _ _ (by omega)).trans k140)
                        have h141_64 := (congrFun eμ64 141).trans ((va_up_ne _ _ (by omega)).trans k141)
                        have h142_64 := (congrFun eμ64 142).trans ((va_up_ne _ _ (by omega)).trans k142)
                        have h143_64 := (congrFun eμ64 143).trans ((va_up_ne _ _ (by omega)).trans k143)
                        have h144_64 := (congrFun eμ64 144).trans ((va_up_ne _ _ (by omega)).trans k144)
                        have h145_64 := (congrFun eμ64 145).trans ((va_up_ne _ _ (by omega)).trans k145)
                        have h146_64 := (congrFun eμ64 146).trans ((va_up_ne _ _ (by omega)).trans k146)
                        have h147_64 := (congrFun eμ64 147).trans ((va_up_ne _ _ (by omega)).trans k147)
                        have h148_64 := (congrFun eμ64 148).trans ((va_up_ne _ _ (by omega)).trans k148)
                        refine lv_aload_n hx hb dX5_readText_171 rfl (lv_at hl 3 rfl) ?_
                        refine lv_dup hx hb dX5_readText_172 rfl ?_
                        refine nv_get F hW (by omega) h136_64 rfl iX5 4 (by decide) tw_633 rfl dX5_readText_173 ?_
                        refine lv_iload_n hx hb dX5_readText_176 rfl (lv_at hl 2 rfl) ?_
                        refine lv_iconst (v := nI 4) hx hb dX5_readText_177 (by decide) ?_
                        refine nv_cne (tgt := 185) F (by omega) (by omega) dX5_readText_178 (by decide) (fun c_65 => ?_) (fun c_65 => ?_)
                        · skip
                          refine lv_iconst (v := nI 0) hx hb dX5_readText_185 (by decide) ?_
                          refine nv_add F dX5_readText_186 ?_
                          refine nv_put F hW (by omega) h136_64 rfl iX5 tyX5 tyX5_ok nmX5 4 (by decide) tw_633 rfl rfl rfl (Nat.le_of_ble_eq_true rfl) dX5_readText_187 (fun H locs hW => ?_)
                          obtain ⟨μ66, eμ66⟩ : ∃ zz9 : ME, zz9 = va_up μ64 136 (.inr (5, [.int (nI (Ln (AL S))), .ref (xa cx 137), .ref (xa cx 138), .ref (xa cx 139), .int (nI (((i - 1) / 5) + 0)), .ref (xa cx 140), .int (nI (An S)), .ref (xa cx 141), .ref (xa cx 142), .int (nI (Az S)), .int (nI nx), .ref (xa cx 143), .int (nI (Ay S)), .ref (xa cx 144), .ref (xa cx 145), .ref (xa cx 146), .long (Ad S), .ref (xa cx 147), .ref (xa cx 148)])) := ⟨_, rfl⟩
                          have hW : St cx s μ66 H locs := by rw [eμ66]; exact hW
                          have h136_66 : μ66 136 = .inr (5, [.int (nI (Ln (AL S))), .ref (xa cx 137), .ref (xa cx 138), .ref (xa cx 139), .int (nI (((i - 1) / 5) + 0)), .ref (xa cx 140), .int (nI (An S)), .ref (xa cx 141), .ref (xa cx 142), .int (nI (Az S)), .int (nI nx), .ref (xa cx 143), .int (nI (Ay S)), .ref (xa cx 144), .ref (xa cx 145), .ref (xa cx 146), .long (Ad S), .ref (xa cx 147), .ref (xa cx 148)]) := by rw [eμ66, va_up_self]
                          have h137_66 := (congrFun eμ66 137).trans ((va_up_ne _ _ (by omega)).trans h137_64)
                          have h138_66 := (congrFun eμ66 138).trans ((va_up_ne _ _ (by omega)).trans h138_64)
                          have h139_66 := (congrFun eμ66 139).trans ((va_up_ne _ _ (by omega)).trans h139_64)
                          have h140_66 := (congrFun eμ66 140).trans ((va_up_ne _ _ (by omega)).trans h140_64)
                          have h141_66 := (congrFun eμ66 141).trans ((va_up_ne _ _ (by omega)).trans h141_64)
                          have h142_66 := (congrFun eμ66 142).trans ((va_up_ne _ _ (by omega)).trans h142_64)
                          have h143_66 := (congrFun eμ66 143).trans ((va_up_ne _ _ (by omega)).trans h143_64)
                          have h144_66 := (congrFun eμ66 144).trans ((va_up_ne _ _ (by omega)).trans h144_64)
                          have h145_66 := (congrFun eμ66 145).trans ((va_up_ne _ _ (by omega)).trans h145_64)
                          have h146_66 := (congrFun eμ66 146).trans ((va_up_ne _ _ (by omega)).trans h146_64)
                          have h147_66 := (congrFun eμ66 147).trans ((va_up_ne _ _ (by omega)).trans h147_64)
                          have h148_66 := (congrFun eμ66 148).trans ((va_up_ne _ _ (by omega)).trans h148_64)
                          refine lv_iinc (v := ((nI (i + 1)))) (lv' := [(1, .int (nI (i + 1))), (4, .int (nI 1)), (3, .int (nI (At S i))), (2, .int (nI ((i - 1) % 5))), (0, .ref (xa cx 136))]) hx hb dX5_readText_190 hl (k := 4) rfl (nI_add _ _) (by decide) rfl (fun ls hl => ?_)
                          refine lv_goto (tgt := 27) hx hb dX5_readText_193 (by decide) ?_
                          exact ih (i + 1) ((upd q (((4 * ((i - 1) / 5)) + ((i - 1) % 5)) - 1) ((nI ((At S i) - 48))))) μ66 _ _ _ (by omega) (by omega) (by rw [show (i + 1 - 1) / 5 = ((i - 1) / 5) + 0 by omega]; exact h136_66) h139_66 (fun z h1 h2 => by rw [eμ66, va_up_ne _ _ (by omega)]; rw [eμ64, va_up_ne _ _ (by omega)]; exact hqo z h1 h2) (by rw [hf]; show (if fitB (At S i) i = true then ff (At S) d (i + 1) else some i) = _; rw [if_pos hfit]) (rd_step hrd (by omega) (by congr 1; unfold rdv; rw [if_neg (by omega), show 2 + 5 * ((i - 1) / 5) + ((i - 1) % 5 - 1) = i by omega])) (fun p9 hp9 => (Nat.lt_or_ge p9 i).elim (fun a => hall p9 a) (fun a => by rw [show p9 = i by omega]; exact hfit)) hW (lv_sub hl [4, 0] rfl)
                        · skip
                          refine lv_iconst (v := nI 1) hx hb dX5_readText_181 (by decide) ?_
                          refine lv_goto (tgt := 186) hx hb dX5_readText_182 (by decide) ?_
                          refine nv_add F dX5_readText_186 ?_
                          refine nv_put F hW (by omega) h136_64 rfl iX5 tyX5 tyX5_ok nmX5 4 (by decide) tw_633 rfl rfl rfl (Nat.le_of_ble_eq_true rfl) dX5_readText_187 (fun H locs hW => ?_)
                          obtain ⟨μ67, eμ67⟩ : ∃ zz9 : ME, zz9 = va_up μ64 136 (.inr (5, [.int (nI (Ln (AL S))), .ref (xa cx 137), .ref (xa cx 138), .ref (xa cx 139), .int (nI (((i - 1) / 5) + 1)), .ref (xa cx 140), .int (nI (An S)), .ref (xa cx 141), .ref (xa cx 142), .int (nI (Az S)), .int (nI nx), .ref (xa cx 143), .int (nI (Ay S)), .ref (xa cx 144), .ref (xa cx 145), .ref (xa cx 146), .long (Ad S), .ref (xa cx 147), .ref (xa cx 148)])) := ⟨_, rfl⟩
                          have hW : St cx s μ67 H locs := by rw [eμ67]; exact hW
                          have h136_67 : μ67 136 = .inr (5, [.int (nI (Ln (AL S))), .ref (xa cx 137), .ref (xa cx 138), .ref (xa cx 139), .int (nI (((i - 1) / 5) + 1)), .ref (xa cx 140), .int (nI (An S)), .ref (xa cx 141), .ref (xa cx 142), .int (nI (Az S)), .int (nI nx), .ref (xa cx 143), .int (nI (Ay S)), .ref (xa cx 144), .ref (xa cx 145), .ref (xa cx 146), .long (Ad S), .ref (xa cx 147), .ref (xa cx 148)]) := by rw [eμ67, va_up_self]
                          have h137_67 := (congrFun eμ67 137).trans ((va_up_ne _ _ (by omega)).trans h137_64)
                          have h138_67 := (congrFun eμ67 138).trans ((va_up_ne _ _ (by omega)).trans h138_64)
                          have h139_67 := (congrFun eμ67 139).trans ((va_up_ne _ _ (by omega)).trans h139_64)
                          have h140_67 := (congrFun eμ67 140).trans ((va_up_ne _ _ (by omega)).trans h140_64)
                          have h141_67 := (congrFun eμ67 141).trans ((va_up_ne _ _ (by omega)).trans h141_64)
                          have h142_67 := (congrFun eμ67 142).trans ((va_up_ne _ _ (by omega)).trans h142_64)
                          have h143_67 := (congrFun eμ67 143).trans ((va_up_ne _ _ (by omega)).trans h143_64)
                          have h144_67 := (congrFun eμ67 144).trans ((va_up_ne _ _ (by omega)).trans h144_64)
                          have h145_67 := (congrFun eμ67 145).trans ((va_up_ne _ _ (by omega)).trans h145_64)
                          have h146_67 := (congrFun eμ67 146).trans ((va_up_ne _ _ (by omega)).trans h146_64)
                          have h147_67 := (congrFun eμ67 147).trans ((va_up_ne _ _ (by omega)).trans h147_64)
                          have h148_67 := (congrFun eμ67 148).trans ((va_up_ne _ _ (by omega)).trans h148_64)
                          refine lv_iinc (v := ((nI (i + 1)))) (lv' := [(1, .int (nI (i + 1))), (4, .int (nI 1)), (3, .int (nI (At S i))), (2, .int (nI ((i - 1) % 5))), (0, .ref (xa cx 136))]) hx hb dX5_readText_190 hl (k := 4) rfl (nI_add _ _) (by decide) rfl (fun ls hl => ?_)
                          refine lv_goto (tgt := 27) hx hb dX5_readText_193 (by decide) ?_
                          exact ih (i + 1) ((upd q (((4 * ((i - 1) / 5)) + ((i - 1) % 5)) - 1) ((nI ((At S i) - 48))))) μ67 _ _ _ (by omega) (by omega) (by rw [show (i + 1 - 1) / 5 = ((i - 1) / 5) + 1 by omega]; exact h136_67) h139_67 (fun z h1 h2 => by rw [eμ67, va_up_ne _ _ (by omega)]; rw [eμ64, va_up_ne _ _ (by omega)]; exact hqo z h1 h2) (by rw [hf]; show (if fitB (At S i) i = true then ff (At S) d (i + 1) else some i) = _; rw [if_pos hfit]) (rd_step hrd (by omega) (by congr 1; unfold rdv; rw [if_neg (by omega), show 2 + 5 * ((i - 1) / 5) + ((i - 1) % 5 - 1) = i by omega])) (fun p9 hp9 => (Nat.lt_or_ge p9 i).elim (fun a => hall p9 a) (fun a => by rw [show p9 = i by omega]; exact hfit)) hW (lv_sub hl [4, 0] rfl)
                      · skip
                        refine lv_iload_n hx hb dX5_readText_159 rfl (lv_at hl 1 rfl) ?_
                        refine cl_ip (cl_runS (rest := [.int (nI (((4 * ((i - 1) / 5)) + ((i - 1) % 5)) - 1)), .ref (xa cx 139)]) F hW e_X5_66 (m_deedOf hI l (At S i) (by have := hA.1.2 i (by omega); omega)) ⟨Nat.le_of_ble_eq_true rfl, Nat.le_of_ble_eq_true rfl⟩ rfl rfl hl (Nat.le_of_ble_eq_true rfl) dX5_readText_160 ⟨Nat.zero_le _, Nat.zero_le _⟩) hW (fun H locs hW => ?_)
                        refine nv_top (y := ((nI (deedN (At S i))))) (md_dn (by first | exact hm8 | exact fun z => absurd (md_no z) (by omega))) ?_
                        refine lv_goto (tgt := 170) hx hb dX5_readText_163 (by decide) ?_
                        refine nv_iastN F hW (by omega) hq (by omega) (by decide) dX5_readText_170 (fun H locs hW => ?_)
                        obtain ⟨μ68, eμ68⟩ : ∃ zz9 : ME, zz9 = va_up μ1 139 (.inl (xT cx 0, 24, .inl (upd q (((4 * ((i - 1) / 5)) + ((i - 1) % 5)) - 1) ((nI (deedN (At S i))))))) := ⟨_, rfl⟩
                        have hW : St cx s μ68 H locs := by rw [eμ68]; exact hW
                        have h136_68 := (congrFun eμ68 136).trans ((va_up_ne _ _ (by omega)).trans k136)
                        have h137_68 := (congrFun eμ68 137).trans ((va_up_ne _ _ (by omega)).trans k137)
                        have h138_68 := (congrFun eμ68 138).trans ((va_up_ne _ _ (by omega)).trans k138)
                        have h139_68 : μ68 139 = .inl (xT cx 0, 24, .inl (upd q (((4 * ((i - 1) / 5)) + ((i - 1) % 5)) - 1) ((nI (deedN (At S i)))))) := by rw [eμ68, va_up_self]
                        have h140_68 := (congrFun eμ68 140).trans ((va_up_ne _ _ (by omega)).trans k140)
                        have h141_68 := (congrFun eμ68 141).trans ((va_up_ne _ _ (by omega)).trans k141)
                        have h142_68 := (congrFun eμ68 142).trans ((va_up_ne _ _ (by omega)).trans k142)
                        have h143_68 := (congrFun eμ68 143).trans ((va_up_ne _ _ (by omega)).trans k143)
                        have h144_68 := (congrFun eμ68 144).trans ((va_up_ne _ _ (by omega)).trans k144)
                        have h145_68 := (congrFun eμ68 145).trans ((va_up_ne _ _ (by omega)).trans k145)
                        have h146_68 := (congrFun eμ68 146).trans ((va_up_ne _ _ (by omega)).trans k146)
                        have h147_68 := (congrFun eμ68 147).trans ((va_up_ne _ _ (by omega)).trans k147)
                        have h148_68 := (congrFun eμ68 148).trans ((va_up_ne _ _ (by omega)).trans k148)
                        refine lv_aload_n hx hb dX5_readText_171 rfl (lv_at hl 3 rfl) ?_
                        refine lv_dup hx hb dX5_readText_172 rfl ?_
                        refine nv_get F hW (by omega) h136_68 rfl iX5 4 (by decide) tw_633 rfl dX5_readText_173 ?_
                        refine lv_iload_n hx hb dX5_readText_176 rfl (lv_at hl 2 rfl) ?_
                        refine lv_iconst (v := nI 4) hx hb dX5_readText_177 (by decide) ?_
                        refine nv_cne (tgt := 185) F (by omega) (by omega) dX5_readText_178 (by decide) (fun c_69 => ?_) (fun c_69 => ?_)
                        · skip
                          refine lv_iconst (v := nI 0) hx hb dX5_readText_185 (by decide) ?_
                          refine nv_add F dX5_readText_186 ?_
                          refine nv_put F hW (by omega) h136_68 rfl iX5 tyX5 tyX5_ok nmX5 4 (by decide) tw_633 rfl rfl rfl (Nat.le_of_ble_eq_true rfl) dX5_readText_187 (fun H locs hW => ?_)
                          obtain ⟨μ70, eμ70⟩ : ∃ zz9 : ME, zz9 = va_up μ68 136 (.inr (5, [.int (nI (Ln (AL S))), .ref (xa cx 137), .ref (xa cx 138), .ref (xa cx 139), .int (nI (((i - 1) / 5) + 0)), .ref (xa cx 140), .int (nI (An S)), .ref (xa cx 141), .ref (xa cx 142), .int (nI (Az S)), .int (nI nx), .ref (xa cx 143), .int (nI (Ay S)), .ref (xa cx 144), .ref (xa cx 145), .ref (xa cx 146), .long (Ad S), .ref (xa cx 147), .ref (xa cx 148)])) := ⟨_, rfl⟩
                          have hW : St cx s μ70 H locs := by rw [eμ70]; exact hW
                          have h136_70 : μ70 136 = .inr (5, [.int (nI (Ln (AL S))), .ref (xa cx 137), .ref (xa cx 138), .ref (xa cx 139), .int (nI (((i - 1) / 5) + 0)), .ref (xa cx 140), .int (nI (An S)), .ref (xa cx 141), .ref (xa cx 142), .int (nI (Az S)), .int (nI nx), .ref (xa cx 143), .int (nI (Ay S)), .ref (xa cx 144), .ref (xa cx 145), .ref (xa cx 146), .long (Ad S), .ref (xa cx 147), .ref (xa cx 148)]) := by rw [eμ70, va_up_self]
                          have h137_70 := (congrFun eμ70 137).trans ((va_up_ne _ _ (by omega)).trans h137_68)
                          have h138_70 := (congrFun eμ70 138).trans ((va_up_ne _ _ (by omega)).trans h138_68)
                          have h139_70 := (congrFun eμ70 139).trans ((va_up_ne _ _ (by omega)).trans h139_68)
                          have h140_70 := (congrFun eμ70 140).trans ((va_up_ne _ _ (by omega)).trans h140_68)
                          have h141_70 := (congrFun eμ70 141).trans ((va_up_ne _ _ (by omega)).trans h141_68)
                          have h142_70 := (congrFun eμ70 142).trans ((va_up_ne _ _ (by omega)).trans h142_68)
                          have h143_70 := (congrFun eμ70 143).trans ((va_up_ne _ _ (by omega)).trans h143_68)
                          have h144_70 := (congrFun eμ70 144).trans ((va_up_ne _ _ (by omega)).trans h144_68)
                          have h145_70 := (congrFun eμ70 145).trans ((va_up_ne _ _ (by omega)).trans h145_68)
                          have h146_70 := (congrFun eμ70 146).trans ((va_up_ne _ _ (by omega)).trans h146_68)
                          have h147_70 := (congrFun eμ70 147).trans ((va_up_ne _ _ (by omega)).trans h147_68)
                          have h148_70 := (congrFun eμ70 148).trans ((va_up_ne _ _ (by omega)).trans h148_68)
                          refine lv_iinc (v := ((nI (i + 1)))) (lv' := [(1, .int (nI (i + 1))), (4, .int (nI 1)), (3, .int (nI (At S i))), (2, .int (nI ((i - 1) % 5))), (0, .ref (xa cx 136))]) hx hb dX5_readText_190 hl (k := 4) rfl (nI_add _ _) (by decide) rfl (fun ls hl => ?_)
                          refine lv_goto (tgt := 27) hx hb dX5_readText_193 (by decide) ?_
                          exact ih (i + 1) ((upd q (((4 * ((i - 1) / 5)) + ((i - 1) % 5)) - 1) ((nI (deedN (At S i)))))) μ70 _ _ _ (by omega) (by omega) (by rw [show (i + 1 - 1) / 5 = ((i - 1) / 5) + 0 by omega]; exact h136_70) h139_70 (fun z h1 h2 => by rw [eμ70, va_up_ne _ _ (by omega)]; rw [eμ68, va_up_ne _ _ (by omega)]; exact hqo z h1 h2) (by rw [hf]; show (if fitB (At S i) i = true then ff (At S) d (i + 1) else some i) = _; rw [if_pos hfit]) (rd_step hrd (by omega) (by congr 1; unfold rdv; rw [if_pos (by omega), show 2 + 5 * ((i - 1) / 5) + ((i - 1) % 5 - 1) = i by omega])) (fun p9 hp9 => (Nat.lt_or_ge p9 i).elim (fun a => hall p9 a) (fun a => by rw [show p9 = i by omega]; exact hfit)) hW (lv_sub hl [4, 0] rfl)
                        · skip
                          refine lv_iconst (v := nI 1) hx hb dX5_readText_181 (by decide) ?_
                          refine lv_goto (tgt := 186) hx hb dX5_readText_182 (by decide) ?_
                          refine nv_add F dX5_readText_186 ?_
                          refine nv_put F hW (by omega) h136_68 rfl iX5 tyX5 tyX5_ok nmX5 4 (by decide) tw_633 rfl rfl rfl (Nat.le_of_ble_eq_true rfl) dX5_readText_187 (fun H locs hW => ?_)
                          obtain ⟨μ71, eμ71⟩ : ∃ zz9 : ME, zz9 = va_up μ68 136 (.inr (5, [.int (nI (Ln (AL S))), .ref (xa cx 137), .ref (xa cx 138), .ref (xa cx 139), .int (nI (((i - 1) / 5) + 1)), .ref (xa cx 140), .int (nI (An S)), .ref (xa cx 141), .ref (xa cx 142), .int (nI (Az S)), .int (nI nx), .ref (xa cx 143), .int (nI (Ay S)), .ref (xa cx 144), .ref (xa cx 145), .ref (xa cx 146), .long (Ad S), .ref (xa cx 147), .ref (xa cx 148)])) := ⟨_, rfl⟩
                          have hW : St cx s μ71 H locs := by rw [eμ71]; exact hW
                          have h136_71 : μ71 136 = .inr (5, [.int (nI (Ln (AL S))), .ref (xa cx 137), .ref (xa cx 138), .ref (xa cx 139), .int (nI (((i - 1) / 5) + 1)), .ref (xa cx 140), .int (nI (An S)), .ref (xa cx 141), .ref (xa cx 142), .int (nI (Az S)), .int (nI nx), .ref (xa cx 143), .int (nI (Ay S)), .ref (xa cx 144), .ref (xa cx 145), .ref (xa cx 146), .long (Ad S), .ref (xa cx 147), .ref (xa cx 148)]) := by rw [eμ71, va_up_self]
                          have h137_71 := (congrFun eμ71 137).trans ((va_up_ne _ _ (by omega)).trans h137_68)
                          have h138_71 := (congrFun eμ71 138).trans ((va_up_ne _ _ (by omega)).trans h138_68)
                          have h139_71 := (congrFun eμ71 139).trans ((va_up_ne _ _ (by omega)).trans h139_68)
                          have h140_71 := (congrFun eμ71 140).trans ((va_up_ne _ _ (by omega)).trans h140_68)
                          have h141_71 := (congrFun eμ71 141).trans ((va_up_ne _ _ (by omega)).trans h141_68)
                          have h142_71 := (congrFun eμ71 142).trans ((va_up_ne _ _ (by omega)).trans h142_68)
                          have h143_71 := (congrFun eμ71 143).trans ((va_up_ne _ _ (by omega)).trans h143_68)
                          have h144_71 := (congrFun eμ71 144).trans ((va_up_ne _ _ (by omega)).trans h144_68)
                          have h145_71 := (congrFun eμ71 145).trans ((va_up_ne _ _ (by omega)).trans h145_68)
                          have h146_71 := (congrFun eμ71 146).trans ((va_up_ne _ _ (by omega)).trans h146_68)
                          have h147_71 := (congrFun eμ71 147).trans ((va_up_ne _ _ (by omega)).trans h147_68)
                          have h148_71 := (congrFun eμ71 148).trans ((va_up_ne _ _ (by omega)).trans h148_68)
                          refine lv_iinc (v := ((nI (i + 1)))) (lv' := [(1, .int (nI (i + 1))), (4, .int (nI 1)), (3, .int (nI (At S i))), (2, .int (nI ((i - 1) % 5))), (0, .ref (xa cx 136))]) hx hb dX5_readText_190 hl (k := 4) rfl (nI_add _ _) (by decide) rfl (fun ls hl => ?_)
                          refine lv_goto (tgt := 27) hx hb dX5_readText_193 (by decide) ?_
                          exact ih (i + 1) ((upd q (((4 * ((i - 1) / 5)) + ((i - 1) % 5)) - 1) ((nI (deedN (At S i)))))) μ71 _ _ _ (by omega) (by omega) (by rw [show (i + 1 - 1) / 5 = ((i - 1) / 5) + 1 by omega]; exact h136_71) h139_71 (fun z h1 h2 => by rw [eμ71, va_up_ne _ _ (by omega)]; rw [eμ68, va_up_ne _ _ (by omega)]; exact hqo z h1 h2) (by rw [hf]; show (if fitB (At S i) i = true then ff (At S) d (i + 1) else some i) = _; rw [if_pos hfit]) (rd_step hrd (by omega) (by congr 1; unfold rdv; rw [if_pos (by omega), show 2 + 5 * ((i - 1) / 5) + ((i - 1) % 5 - 1) = i by omega])) (fun p9 hp9 => (Nat.lt_or_ge p9 i).elim (fun a => hall p9 a) (fun a => by rw [show p9 = i by omega]; exact hfit)) hW (lv_sub hl [4, 0] rfl)
                  · skip
                    exact absurd c_58 (by decide)
      have h0f : fitB (At S 0) 0 = true := by unfold fitB; rw [if_pos rfl]; exact decide_eq_true (by omega)
      exact LOOP (An S - 1) 1 frd μ1 _ _ _ (by omega) (by omega) h136_1 h139_1 (fun z h1 h2 => by rw [eμ1, va_up_ne _ _ h1]) (by rw [show An S = (An S - 1) + 1 by omega]; show (if fitB (At S 0) 0 = true then ff (At S) (An S - 1) 1 else some 0) = _; rw [if_pos h0f]; rfl) (fun h k h1 h2 => absurd h2 (by omega)) (fun p9 hp9 => by rw [show p9 = 0 by omega]; exact h0f) hW (lv_sub hl [1, 0] rfl)
    · skip
      refine lv_iconst (v := nI 0) hx hb dX5_readText_23 (by decide) ?_
      have eF : faultI (At S) (An S) = nI 0 := by
        unfold faultI
        by_cases h0 : An S = 0
        · rw [h0]; rfl
        · rw [show An S = (An S - 1) + 1 by omega]
          show (match (if fitB (At S 0) 0 = true then ff (At S) (An S - 1) 1 else some 0) with | some p => nI p | none => _) = _
          rw [if_neg (by unfold fitB; rw [if_pos rfl, decide_eq_true_eq]; omega)]
      exact rt_ie F hr hlk hW eF.symm ⟨⟨_, nx, f1, fn, frd, ft, fo, fa, frw, fh, fu, fb, fz, fkp, h136_1, h137_1, h138_1, h139_1, h140_1, h141_1, h142_1, h143_1, h144_1, h145_1, h146_1, h147_1, h148_1, hg, hv, ht, hnx, hrw, hse, hkp, hTr⟩, (fun z hz => by rw [eμ1, va_up_ne _ _ (by omega)]), fun z => absurd (eF.symm.trans z) (by decide)⟩ dX5_readText_24

set_option maxHeartbeats 4000000 in
set_option maxRecDepth 100000 in
theorem x_fault {cx : CX} (hI : xI cx) (l : Launch) {μ : ME} {S : AS} {B : Nat} {Tr : (Nat → Int32) → Prop} (hN : 149 ≤ xN cx) (hX : modX cx μ S Tr) (hA : aok S B) (hMo : mok S) (hB : B < 800000) : MT cx l yX5_fault cX5_fault 1 (some .int) 2 49 [.ref (xa cx 136)] μ (Ei cx (faultI (At S) (An S)) (fun μ1 => modX cx μ1 S (fun _ => True) ∧ off 136 13 μ μ1)) := by
  refine mt_of hI (by decide) (Nat.le_of_ble_eq_true rfl) ?_
  intro p e s m below meth c ls F hr hlk hW hl
  have hx := F.1.1
  have hb := F.1.2.1
  have hts := F.1.2.2.2.2
  obtain ⟨rh, nx, f1, fn, frd, ft, fo, fa, frw, fh, fu, fb, fz, fkp, g136, g137, g138, g139, g140, g141, g142, g143, g144, g145, g146, g147, g148, hg, hv, ht, hnx, hrw, hse, hkp, hTr⟩ := id hX
  have hk := hA.2.1
  have hn6 := hk.1
  have hk4 := hk.2.2.2.1
  have hU := lok_U hk
  have hV0 := modX_V0 hX
  have hl : lv_has ls 1 [(0, .ref (xa cx 136))] := hl
  refine lv_aload_n hx hb dX5_fault_0 rfl (lv_at hl 0 rfl) ?_
  refine cl_ie (cl_run (rest := []) F hW e_X5_70 (m_readText hI l hN hX hA hMo hB) ⟨Nat.le_of_ble_eq_true rfl, Nat.le_of_ble_eq_true rfl⟩ (by omega) g136 rfl rfl rfl hl (Nat.le_of_ble_eq_true rfl) dX5_fault_1 ⟨Nat.zero_le _, Nat.zero_le _⟩) hW (fun μ1 H locs q_1 hW => ?_)
  obtain ⟨hX_r, ho_r, hrk⟩ := q_1
  obtain ⟨rh_r, nx_r, f1_r, fn_r, frd_r, ft_r, fo_r, fa_r, frw_r, fh_r, fu_r, fb_r, fz_r, fkp_r, g136_r, g137_r, g138_r, g139_r, g140_r, g141_r, g142_r, g143_r, g144_r, g145_r, g146_r, g147_r, g148_r, hg_r, hv_r, ht_r, hnx_r, hrw_r, hse_r, hkp_r, hTr_r⟩ := id hX_r
  exact rt_ie F hr hlk hW rfl ⟨(modX_tr hX_r (fun _ _ => trivial)), (fun z hz => by rw [ho_r z (by omega)])⟩ dX5_fault_4
