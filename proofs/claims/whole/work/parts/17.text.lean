/-- the text in the heap: letters and their number -/
def textR (cx : CX) (μ : ME) (b : Nat) (t : Nat → Nat) (n : Nat) : Prop := ∃ f : Nat → Int32, μ b = .inr (3, [.ref (xa cx (b + 1)), .int (nI n)]) ∧ μ (b + 1) = .inl (xT cx 1, 64, .inl f) ∧ ∀ i, i < n → f i = nI (t i)
def tok (t : Nat → Nat) (n : Nat) : Prop := n ≤ 64 ∧ ∀ i, i < n → t i ≤ 255
theorem textR_off {cx : CX} {μ μ1 : ME} {b a m n : Nat} {t : Nat → Nat} (h : textR cx μ b t n) (ho : off a m μ μ1) (hd : a + m ≤ b ∨ b + 2 ≤ a) : textR cx μ1 b t n := by
  obtain ⟨f, h0, h1, h2⟩ := h
  exact ⟨f, (ho _ (by omega)).trans h0, (ho _ (by omega)).trans h1, h2⟩
def fitB (c k : Nat) : Bool := if k = 0 then decide (c = 65) else if 31 ≤ k then false else if (k - 1) % 5 = 0 then decide (c = 72) else if (k - 1) % 5 = 1 then decide (48 ≤ c ∧ c ≤ 52) else if (k - 1) % 5 = 4 then decide (c = 108 ∨ c = 114 ∨ c = 109) else decide (48 ≤ c ∧ c ≤ 57)
/-- the first letter, of d more from i on, that does not fit -/
def ff (t : Nat → Nat) : Nat → Nat → Option Nat
  | 0, _ => none
  | d + 1, i => if fitB (t i) i then ff t d (i + 1) else some i
def faultI (t : Nat → Nat) (n : Nat) : Int32 := match ff t n 0 with
  | some p => nI p
  | none => if n % 5 = 1 then -9 else nI n
def deedN (c : Nat) : Nat := if c = 108 then 0 else if c = 114 then 1 else 2
theorem char_id {c : Nat} (h : c ≤ 255) : ((nI c).toUInt32 % 65536).toInt32 = nI c := by
  rw [pk_char, pk_tn (by omega), Nat.mod_eq_of_lt (by omega)]
theorem char_vn {c : Nat} (h : c ≤ 255) : vp_nar .char (nI c) = nI c := by
  unfold vp_nar
  rw [(pk_charN (show c < 65536 by omega)).1]
theorem char_nr {c : Nat} (h : c ≤ 255) : narrow .char (.int (nI c)) = .int (nI c) := (pk_charN (show c < 65536 by omega)).1
theorem min6 {a : Nat} (h : a < 2147483648) : (if nI a < nI 6 then nI a else nI 6) = nI (min 6 a) := by
  by_cases q : a < 6
  · rw [if_pos ((nI_ltI h (by decide)).mpr q)]
    congr 1
    omega
  · rw [if_neg (fun z => q ((nI_ltI h (by decide)).mp z))]
    congr 1
    omega

set_option maxHeartbeats 4000000 in
set_option maxRecDepth 100000 in
theorem c_length {cx : CX} (hI : xI cx) (l : Launch) {μ : ME} {b : Nat} {t : Nat → Nat} {n : Nat} (hb2 : b + 2 ≤ xN cx) (hT : textR cx μ b t n) (ht : tok t n) : MT cx l yX3_length cX3_length 1 (some .int) 0 0 [.ref (xa cx b)] μ (Pi cx μ (nI n)) := by
  refine mt_of hI (by decide) (Nat.le_of_ble_eq_true rfl) ?_
  intro p e s m below meth c ls F hr hlk hW hl
  have hx := F.1.1
  have hb := F.1.2.1
  have hts := F.1.2.2.2.2
  obtain ⟨f, h0, h1, hv⟩ := id hT
  have hn64 := ht.1
  have ht255 := ht.2
  have hl : lv_has ls 1 [(0, .ref (xa cx b))] := hl
  refine lv_aload_n hx hb dX3_length_0 rfl (lv_at hl 0 rfl) ?_
  refine nv_get F hW (by omega) h0 rfl iX3 1 (by decide) tw_68 rfl dX3_length_1 ?_
  exact rt_ip F hr hlk hW rfl rfl dX3_length_4

set_option maxHeartbeats 4000000 in
set_option maxRecDepth 100000 in
theorem c_clear {cx : CX} (hI : xI cx) (l : Launch) {μ : ME} {b : Nat} {t : Nat → Nat} {n : Nat} (hb2 : b + 2 ≤ xN cx) (hT : textR cx μ b t n) (ht : tok t n) : MT cx l yX3_clear cX3_clear 2 (some .int) 0 0 [.ref (xa cx b)] μ (Ei cx (nI n) (fun μ1 => textR cx μ1 b t 0 ∧ off b 2 μ μ1)) := by
  refine mt_of hI (by decide) (Nat.le_of_ble_eq_true rfl) ?_
  intro p e s m below meth c ls F hr hlk hW hl
  have hx := F.1.1
  have hb := F.1.2.1
  have hts := F.1.2.2.2.2
  obtain ⟨f, h0, h1, hv⟩ := id hT
  have hn64 := ht.1
  have ht255 := ht.2
  have hl : lv_has ls 2 [(0, .ref (xa cx b))] := hl
  refine lv_aload_n hx hb dX3_clear_0 rfl (lv_at hl 0 rfl) ?_
  refine nv_get F hW (by omega) h0 rfl iX3 1 (by decide) tw_68 rfl dX3_clear_1 ?_
  refine lv_istore_n (lv' := [(1, .int (nI n)), (0, .ref (xa cx b))]) hx hb dX3_clear_4 rfl hl (by decide) rfl (fun ls hl => ?_)
  refine lv_aload_n hx hb dX3_clear_5 rfl (lv_at hl 1 rfl) ?_
  refine lv_iconst (v := nI 0) hx hb dX3_clear_6 (by decide) ?_
  refine nv_put F hW (by omega) h0 rfl iX3 tyX3 tyX3_ok nmX3 1 (by decide) tw_68 rfl rfl rfl (Nat.le_of_ble_eq_true rfl) dX3_clear_7 (fun H locs hW => ?_)
  obtain ⟨μ1, eμ1⟩ : ∃ z : ME, z = va_up μ b (.inr (3, [.ref (xa cx (b + 1)), .int (nI 0)])) := ⟨_, rfl⟩
  have hW : St cx s μ1 H locs := by rw [eμ1]; exact hW
  have hb_1 : μ1 b = .inr (3, [.ref (xa cx (b + 1)), .int (nI 0)]) := by rw [eμ1, va_up_self]
  have hb_1_1 := (congrFun eμ1 (b + 1)).trans ((va_up_ne _ _ (by omega)).trans h1)
  refine lv_iload_n hx hb dX3_clear_10 rfl (lv_at hl 0 rfl) ?_
  exact rt_ie F hr hlk hW rfl ⟨⟨f, hb_1, hb_1_1, fun i hi => absurd hi (by omega)⟩, (fun z hz => by rw [eμ1, va_up_ne _ _ (by omega)])⟩ dX3_clear_11

set_option maxHeartbeats 4000000 in
set_option maxRecDepth 100000 in
theorem c_append {cx : CX} (hI : xI cx) (l : Launch) {μ : ME} {b : Nat} {t : Nat → Nat} {n : Nat} (hb2 : b + 2 ≤ xN cx) (hT : textR cx μ b t n) (ht : tok t n) (v : Nat) (hv255 : v ≤ 255) : MT cx l yX3_append cX3_append 2 (some .boolean) 0 0 [.ref (xa cx b), .int (nI v)] μ (Ei cx (b2 (decide (n < 64))) (fun μ1 => textR cx μ1 b (if n < 64 then va_up t n v else t) (if n < 64 then n + 1 else n) ∧ off b 2 μ μ1)) := by
  refine mt_of hI (by decide) (Nat.le_of_ble_eq_true rfl) ?_
  intro p e s m below meth c ls F hr hlk hW hl
  have hx := F.1.1
  have hb := F.1.2.1
  have hts := F.1.2.2.2.2
  obtain ⟨f, h0, h1, hv⟩ := id hT
  have hn64 := ht.1
  have ht255 := ht.2
  have hl : lv_has ls 2 [(0, .ref (xa cx b)), (1, .int (nI v))] := hl
  refine lv_aload_n hx hb dX3_append_0 rfl (lv_at hl 0 rfl) ?_
  refine nv_get F hW (by omega) h0 rfl iX3 1 (by decide) tw_68 rfl dX3_append_1 ?_
  refine lv_bipush (v := nI 64) hx hb dX3_append_4 (by decide) ?_
  refine nv_clt (tgt := 11) F (by omega) (by omega) dX3_append_6 (by decide) (fun c_1 => ?_) (fun c_1 => ?_)
  · skip
    refine lv_aload_n hx hb dX3_append_11 rfl (lv_at hl 0 rfl) ?_
    refine nv_get F hW (by omega) h0 rfl iX3 0 (by decide) tw_67 rfl dX3_append_12 ?_
    refine lv_aload_n hx hb dX3_append_15 rfl (lv_at hl 0 rfl) ?_
    refine nv_get F hW (by omega) h0 rfl iX3 1 (by decide) tw_68 rfl dX3_append_16 ?_
    refine lv_iload_n hx hb dX3_append_19 rfl (lv_at hl 1 rfl) ?_
    refine lv_i2c hx hb dX3_append_20 rfl ?_
    refine nv_top (y := ((nI v))) (char_id hv255) ?_
    refine nv_castN F hW (by omega) h1 (by omega) (by decide) (char_vn hv255) dX3_append_21 (fun H locs hW => ?_)
    obtain ⟨μ2, eμ2⟩ : ∃ z : ME, z = va_up μ (b + 1) (.inl (xT cx 1, 64, .inl (upd f n ((nI v))))) := ⟨_, rfl⟩
    have hW : St cx s μ2 H locs := by rw [eμ2]; exact hW
    have hb_2 := (congrFun eμ2 b).trans ((va_up_ne _ _ (by omega)).trans h0)
    have hb_1_2 : μ2 (b + 1) = .inl (xT cx 1, 64, .inl (upd f n ((nI v)))) := by rw [eμ2, va_up_self]
    refine lv_aload_n hx hb dX3_append_22 rfl (lv_at hl 0 rfl) ?_
    refine lv_dup hx hb dX3_append_23 rfl ?_
    refine nv_get F hW (by omega) hb_2 rfl iX3 1 (by decide) tw_68 rfl dX3_append_24 ?_
    refine lv_iconst (v := nI 1) hx hb dX3_append_27 (by decide) ?_
    refine nv_add F dX3_append_28 ?_
    refine nv_put F hW (by omega) hb_2 rfl iX3 tyX3 tyX3_ok nmX3 1 (by decide) tw_68 rfl rfl rfl (Nat.le_of_ble_eq_true rfl) dX3_append_29 (fun H locs hW => ?_)
    obtain ⟨μ3, eμ3⟩ : ∃ z : ME, z = va_up μ2 b (.inr (3, [.ref (xa cx (b + 1)), .int (nI (n + 1))])) := ⟨_, rfl⟩
    have hW : St cx s μ3 H locs := by rw [eμ3]; exact hW
    have hb_3 : μ3 b = .inr (3, [.ref (xa cx (b + 1)), .int (nI (n + 1))]) := by rw [eμ3, va_up_self]
    have hb_1_3 := (congrFun eμ3 (b + 1)).trans ((va_up_ne _ _ (by omega)).trans hb_1_2)
    refine lv_iconst (v := nI 1) hx hb dX3_append_32 (by decide) ?_
    exact rt_ze F hr hlk hW (b2_t (by omega)) ⟨by rw [if_pos (show n < 64 by omega), if_pos (show n < 64 by omega)]; exact ⟨_, hb_3, hb_1_3, fun i hi => by
      unfold upd va_up
      by_cases e : i = n
      · rw [if_pos e, if_pos e]
      · rw [if_neg e, if_neg e]; exact hv i (by omega)⟩, (fun z hz => by rw [eμ3, va_up_ne _ _ (by omega)]; rw [eμ2, va_up_ne _ _ (by omega)])⟩ dX3_append_33
  · skip
    refine lv_iconst (v := nI 0) hx hb dX3_append_9 (by decide) ?_
    exact rt_ze F hr hlk hW (b2_f (by omega)) ⟨by rw [if_neg (show ¬ n < 64 by omega), if_neg (show ¬ n < 64 by omega)]; exact hT, off_rf⟩ dX3_append_10

set_option maxHeartbeats 4000000 in
set_option maxRecDepth 100000 in
theorem c_fits {cx : CX} (hI : xI cx) (l : Launch) {μ : ME} (ch k : Nat) (hch : ch ≤ 255) (hk64 : k < 64) : MT cx l yX3_fits cX3_fits 2 (some .boolean) 0 0 [.int (nI ch), .int (nI k)] μ (Pi cx μ (b2 (fitB ch k))) := by
  refine mt_of hI (by decide) (Nat.le_of_ble_eq_true rfl) ?_
  intro p e s m below meth c ls F hr hlk hW hl
  have hx := F.1.1
  have hb := F.1.2.1
  have hts := F.1.2.2.2.2
  have hl : lv_has ls 2 [(0, .int (nI ch)), (1, .int (nI k))] := hl
  refine lv_iload_n hx hb dX3_fits_0 rfl (lv_at hl 1 rfl) ?_
  refine nv_zne (tgt := 16) F (by omega) dX3_fits_1 (by decide) (fun c_1 => ?_) (fun c_1 => ?_)
  · skip
    refine lv_iload_n hx hb dX3_fits_16 rfl (lv_at hl 1 rfl) ?_
    refine lv_bipush (v := nI 31) hx hb dX3_fits_17 (by decide) ?_
    refine nv_clt (tgt := 24) F (by omega) (by omega) dX3_fits_19 (by decide) (fun c_2 => ?_) (fun c_2 => ?_)
    · skip
      refine lv_iload_n hx hb dX3_fits_24 rfl (lv_at hl 1 rfl) ?_
      refine lv_iconst (v := nI 1) hx hb dX3_fits_25 (by decide) ?_
      refine nv_sub F (by omega) dX3_fits_26 ?_
      refine lv_iconst (v := nI 5) hx hb dX3_fits_27 (by decide) ?_
      refine nv_rem F (by omega) (by omega) (by omega) dX3_fits_28 ?_
      obtain ⟨r, er⟩ : ∃ z, z = (k - 1) % 5 := ⟨_, rfl⟩
      rw [← er]
      rcases (show r = 0 ∨ r = 1 ∨ r = 2 ∨ r = 3 ∨ r = 4 by omega) with rfl | rfl | rfl | rfl | rfl
      · skip
        refine lv_tableIn (tgt := 64) hx hb dX3_fits_29 (by decide) (by decide) rfl (by decide) ?_
        refine lv_iload_n hx hb dX3_fits_64 rfl (lv_at hl 0 rfl) ?_
        refine lv_bipush (v := nI 72) hx hb dX3_fits_65 (by decide) ?_
        refine nv_cne (tgt := 74) F (by omega) (by omega) dX3_fits_67 (by decide) (fun c_3 => ?_) (fun c_3 => ?_)
        · skip
          refine lv_iconst (v := nI 0) hx hb dX3_fits_74 (by decide) ?_
          have hfit : fitB ch k = false := by
            unfold fitB
            first
              | (rw [if_pos (by omega)]; first | exact decide_eq_true (by omega) | exact decide_eq_false (by omega))
              | (rw [if_neg (by omega), if_pos (by omega)])
              | (rw [if_neg (by omega), if_neg (by omega), if_pos (by omega)]; first | exact decide_eq_true (by omega) | exact decide_eq_false (by omega))
              | (rw [if_neg (by omega), if_neg (by omega), if_neg (by omega), if_pos (by omega)]; first | exact decide_eq_true (by omega) | exact decide_eq_false (by omega))
              | (rw [if_neg (by omega), if_neg (by omega), if_neg (by omega), if_neg (by omega), if_pos (by omega)]; first | exact decide_eq_true (by omega) | exact decide_eq_false (by omega))
              | (rw [if_neg (by omega), if_neg (by omega), if_neg (by omega), if_neg (by omega), if_neg (by omega)]; first | exact decide_eq_true (by omega) | exact decide_eq_false (by omega))
          exact rt_zp F hr hlk hW (by rw [hfit]; rfl) rfl dX3_fits_75
        · skip
          refine lv_iconst (v := nI 1) hx hb dX3_fits_70 (by decide) ?_
          refine lv_goto (tgt := 75) hx hb dX3_fits_71 (by decide) ?_
          have hfit : fitB ch k = true := by
            unfold fitB
            first
              | (rw [if_pos (by omega)]; first | exact decide_eq_true (by omega) | exact decide_eq_false (by omega))
              | (rw [if_neg (by omega), if_pos (by omega)])
              | (rw [if_neg (by omega), if_neg (by omega), if_pos (by omega)]; first | exact decide_eq_true (by omega) | exact decide_eq_false (by omega))
              | (rw [if_neg (by omega), if_neg (by omega), if_neg (by omega), if_pos (by omega)]; first | exact decide_eq_true (by omega) | exact decide_eq_false (by omega))
              | (rw [if_neg (by omega), if_neg (by omega), if_neg (by omega), if_neg (by omega), if_pos (by omega)]; first | exact decide_eq_true (by omega) | exact decide_eq_false (by omega))
              | (rw [if_neg (by omega), if_neg (by omega), if_neg (by omega), if_neg (by omega), if_neg (by omega)]; first | exact decide_eq_true (by omega) | exact decide_eq_false (by omega))
          exact rt_zp F hr hlk hW (by rw [hfit]; rfl) rfl dX3_fits_75
      · skip
        refine lv_tableIn (tgt := 76) hx hb dX3_fits_29 (by decide) (by decide) rfl (by decide) ?_
        refine lv_iload_n hx hb dX3_fits_76 rfl (lv_at hl 0 rfl) ?_
        refine lv_bipush (v := nI 48) hx hb dX3_fits_77 (by decide) ?_
        refine nv_clt (tgt := 92) F (by omega) (by omega) dX3_fits_79 (by decide) (fun c_4 => ?_) (fun c_4 => ?_)
        · skip
          refine lv_iconst (v := nI 0) hx hb dX3_fits_92 (by decide) ?_
          have hfit : fitB ch k = false := by
            unfold fitB
            first
              | (rw [if_pos (by omega)]; first | exact decide_eq_true (by omega) | exact decide_eq_false (by omega))
              | (rw [if_neg (by omega), if_pos (by omega)])
              | (rw [if_neg (by omega), if_neg (by omega), if_pos (by omega)]; first | exact decide_eq_true (by omega) | exact decide_eq_false (by omega))
              | (rw [if_neg (by omega), if_neg (by omega), if_neg (by omega), if_pos (by omega)]; first | exact decide_eq_true (by omega) | exact decide_eq_false (by omega))
              | (rw [if_neg (by omega), if_neg (by omega), if_neg (by omega), if_neg (by omega), if_pos (by omega)]; first | exact decide_eq_true (by omega) | exact decide_eq_false (by omega))
              | (rw [if_neg (by omega), if_neg (by omega), if_neg (by omega), if_neg (by omega), if_neg (by omega)]; first | exact decide_eq_true (by omega) | exact decide_eq_false (by omega))
          exact rt_zp F hr hlk hW (by rw [hfit]; rfl) rfl dX3_fits_93
        · skip
          refine lv_iload_n hx hb dX3_fits_82 rfl (lv_at hl 0 rfl) ?_
          refine lv_bipush (v := nI 52) hx hb dX3_fits_83 (by decide) ?_
          refine nv_cgt (tgt := 92) F (by omega) (by omega) dX3_fits_85 (by decide) (fun c_5 => ?_) (fun c_5 => ?_)
          · skip
            refine lv_iconst (v := nI 0) hx hb dX3_fits_92 (by decide) ?_
            have hfit : fitB ch k = false := by
              unfold fitB
              first
                | (rw [if_pos (by omega)]; first | exact decide_eq_true (by omega) | exact decide_eq_false (by omega))
                | (rw [if_neg (by omega), if_pos (by omega)])
                | (rw [if_neg (by omega), if_neg (by omega), if_pos (by omega)]; first | exact decide_eq_true (by omega) | exact decide_eq_false (by omega))
                | (rw [if_neg (by omega), if_neg (by omega), if_neg (by omega), if_pos (by omega)]; first | exact decide_eq_true (by omega) | exact decide_eq_false (by omega))
                | (rw [if_neg (by omega), if_neg (by omega), if_neg (by omega), if_neg (by omega), if_pos (by omega)]; first | exact decide_eq_true (by omega) | exact decide_eq_false (by omega))
                | (rw [if_neg (by omega), if_neg (by omega), if_neg (by omega), if_neg (by omega), if_neg (by omega)]; first | exact decide_eq_true (by omega) | exact decide_eq_false (by omega))
            exact rt_zp F hr hlk hW (by rw [hfit]; rfl) rfl dX3_fits_93
          · skip
            refine lv_iconst (v := nI 1) hx hb dX3_fits_88 (by decide) ?_
            refine lv_goto (tgt := 93) hx hb dX3_fits_89 (by decide) ?_
            have hfit : fitB ch k = true := by
              unfold fitB
              first
                | (rw [if_pos (by omega)]; first | exact decide_eq_true (by omega) | exact decide_eq_false (by omega))
                | (rw [if_neg (by omega), if_pos (by omega)])
                | (rw [if_neg (by omega), if_neg (by omega), if_pos (by omega)]; first | exact decide_eq_true (by omega) | exact decide_eq_false (by omega))
                | (rw [if_neg (by omega), if_neg (by omega), if_neg (by omega), if_pos (by omega)]; first | exact decide_eq_true (by omega) | exact decide_eq_false (by omega))
                | (rw [if_neg (by omega), if_neg (by omega), if_neg (by omega), if_neg (by omega), if_pos (by omega)]; first | exact decide_eq_true (by omega) | exact decide_eq_false (by omega))
                | (rw [if_neg (by omega), if_neg (by omega), if_neg (by omega), if_neg (by omega), if_neg (by omega)]; first | exact decide_eq_true (by omega) | exact decide_eq_false (by omega))
            exact rt_zp F hr hlk hW (by rw [hfit]; rfl) rfl dX3_fits_93
      · skip
        refine lv_tableIn (tgt := 118) hx hb dX3_fits_29 (by decide) (by decide) rfl (by decide) ?_
        refine lv_iload_n hx hb dX3_fits_118 rfl (lv_at hl 0 rfl) ?_
        refine lv_bipush (v := nI 48) hx hb dX3_fits_119 (by decide) ?_
        refine nv_clt (tgt := 134) F (by omega) (by omega) dX3_fits_121 (by decide) (fun c_6 => ?_) (fun c_6 => ?_)
        · skip
          refine lv_iconst (v := nI 0) hx hb dX3_fits_134 (by decide) ?_
          have hfit : fitB ch k = false := by
            unfold fitB
            first
              | (rw [if_pos (by omega)]; first | exact decide_eq_true (by omega) | exact decide_eq_false (by omega))
              | (rw [if_neg (by omega), if_pos (by omega)])
              | (rw [if_neg (by omega), if_neg (by omega), if_pos (by omega)]; first | exact decide_eq_true (by omega) | exact decide_eq_false (by omega))
              | (rw [if_neg (by omega), if_neg (by omega), if_neg (by omega), if_pos (by omega)]; first | exact decide_eq_true (by omega) | exact decide_eq_false (by omega))
              | (rw [if_neg (by omega), if_neg (by omega), if_neg (by omega), if_neg (by omega), if_pos (by omega)]; first | exact decide_eq_true (by omega) | exact decide_eq_false (by omega))
              | (rw [if_neg (by omega), if_neg (by omega), if_neg (by omega), if_neg (by omega), if_neg (by omega)]; first | exact decide_eq_true (by omega) | exact decide_eq_false (by omega))
          exact rt_zp F hr hlk hW (by rw [hfit]; rfl) rfl dX3_fits_135
        · skip
          refine lv_iload_n hx hb dX3_fits_124 rfl (lv_at hl 0 rfl) ?_
          refine lv_bipush (v := nI 57) hx hb dX3_fits_125 (by decide) ?_
          refine nv_cgt (tgt := 134) F (by omega) (by omega) dX3_fits_127 (by decide) (fun c_7 => ?_) (fun c_7 => ?_)
          · skip
            refine lv_iconst (v := nI 0) hx hb dX3_fits_134 (by decide) ?_
            have hfit : fitB ch k = false := by
              unfold fitB
              first
                | (rw [if_pos (by omega)]; first | exact decide_eq_true (by omega) | exact decide_eq_false (by omega))
                | (rw [if_neg (by omega), if_pos (by omega)])
                | (rw [if_neg (by omega), if_neg (by omega), if_pos (by omega)]; first | exact decide_eq_true (by omega) | exact decide_eq_false (by omega))
                | (rw [if_neg (by omega), if_neg (by omega), if_neg (by omega), if_pos (by omega)]; first | exact decide_eq_true (by omega) | exact decide_eq_false (by omega))
                | (rw [if_neg (by omega), if_neg (by omega), if_neg (by omega), if_neg (by omega), if_pos (by omega)]; first | exact decide_eq_true (by omega) | exact decide_eq_false (by omega))
                | (rw [if_neg (by omega), if_neg (by omega), if_neg (by omega), if_neg (by omega), if_neg (by omega)]; first | exact decide_eq_true (by omega) | exact decide_eq_false (by omega))
            exact rt_zp F hr hlk hW (by rw [hfit]; rfl) rfl dX3_fits_135
          · skip
            refine lv_iconst (v := nI 1) hx hb dX3_fits_130 (by decide) ?_
            refine lv_goto (tgt := 135) hx hb dX3_fits_131 (by decide) ?_
            have hfit : fitB ch k = true := by
              unfold fitB
              first
                | (rw [if_pos (by omega)]; first | exact decide_eq_true (by omega) | exact decide_eq_false (by omega))
                | (rw [if_neg (by omega), if_pos (by omega)])
                | (rw [if_neg (by omega), if_neg (by omega), if_pos (by omega)]; first | exact decide_eq_true (by omega) | exact decide_eq_false (by omega))
                | (rw [if_neg (by omega), if_neg (by omega), if_neg (by omega), if_pos (by omega)]; first | exact decide_eq_true (by omega) | exact decide_eq_false (by omega))
                | (rw [if_neg (by omega), if_neg (by omega), if_neg (by omega), if_neg (by omega), if_pos (by omega)]; first | exact decide_eq_true (by omega) | exact decide_eq_false (by omega))
                | (rw [if_neg (by omega), if_neg (by omega), if_neg (by omega), if_neg (by omega), if_neg (by omega)]; first | exact decide_eq_true (by omega) | exact decide_eq_false (by omega))
            exact rt_zp F hr hlk hW (by rw [hfit]; rfl) rfl dX3_fits_135
      · skip
        refine lv_tableIn (tgt := 118) hx hb dX3_fits_29 (by decide) (by decide) rfl (by decide) ?_
        refine lv_iload_n hx hb dX3_fits_118 rfl (lv_at hl 0 rfl) ?_
        refine lv_bipush (v := nI 48) hx hb dX3_fits_119 (by decide) ?_
        refine nv_clt (tgt := 134) F (by omega) (by omega) dX3_fits_121 (by decide) (fun c_8 => ?_) (fun c_8 => ?_)
        · skip
          refine lv_iconst (v := nI 0) hx hb dX3_fits_134 (by decide) ?_
          have hfit : fitB ch k = false := by
            unfold fitB
            first
              | (rw [if_pos (by omega)]; first | exact decide_eq_true (by omega) | exact decide_eq_false (by omega))
              | (rw [if_neg (by omega), if_pos (by omega)])
              | (rw [if_neg (by omega), if_neg (by omega), if_pos (by omega)]; first | exact decide_eq_true (by omega) | exact decide_eq_false (by omega))
              | (rw [if_neg (by omega), if_neg (by omega), if_neg (by omega), if_pos (by omega)]; first | exact decide_eq_true (by omega) | exact decide_eq_false (by omega))
              | (rw [if_neg (by omega), if_neg (by omega), if_neg (by omega), if_neg (by omega), if_pos (by omega)]; first | exact decide_eq_true (by omega) | exact decide_eq_false (by omega))
              | (rw [if_neg (by omega), if_neg (by omega), if_neg (by omega), if_neg (by omega), if_neg (by omega)]; first | exact decide_eq_true (by omega) | exact decide_eq_false (by omega))
          exact rt_zp F hr hlk hW (by rw [hfit]; rfl) rfl dX3_fits_135
        · skip
          refine lv_iload_n hx hb dX3_fits_124 rfl (lv_at hl 0 rfl) ?_
          refine lv_bipush (v := nI 57) hx hb dX3_fits_125 (by decide) ?_
          refine nv_cgt (tgt := 134) F (by omega) (by omega) dX3_fits_127 (by decide) (fun c_9 => ?_) (fun c_9 => ?_)
          · skip
            refine lv_iconst (v := nI 0) hx hb dX3_fits_134 (by decide) ?_
            have hfit : fitB ch k = false := by
              unfold fitB
              first
                | (rw [if_pos (by omega)]; first | exact decide_eq_true (by omega) | exact decide_eq_false (by omega))
                | (rw [if_neg (by omega), if_pos (by omega)])
                | (rw [if_neg (by omega), if_neg (by omega), if_pos (by omega)]; first | exact decide_eq_true (by omega) | exact decide_eq_false (by omega))
                | (rw [if_neg (by omega), if_neg (by omega), if_neg (by omega), if_pos (by omega)]; first | exact decide_eq_true (by omega) | exact decide_eq_false (by omega))
                | (rw [if_neg (by omega), if_neg (by omega), if_neg (by omega), if_neg (by omega), if_pos (by omega)]; first | exact decide_eq_true (by omega) | exact decide_eq_false (by omega))
                | (rw [if_neg (by omega), if_neg (by omega), if_neg (by omega), if_neg (by omega), if_neg (by omega)]; first | exact decide_eq_true (by omega) | exact decide_eq_false (by omega))
            exact rt_zp F hr hlk hW (by rw [hfit]; rfl) rfl dX3_fits_135
          · skip
            refine lv_iconst (v := nI 1) hx hb dX3_fits_130 (by decide) ?_
            refine lv_goto (tgt := 135) hx hb dX3_fits_131 (by decide) ?_
            have hfit : fitB ch k = true := by
              unfold fitB
              first
                | (rw [if_pos (by omega)]; first | exact decide_eq_true (by omega) | exact decide_eq_false (by omega))
                | (rw [if_neg (by omega), if_pos (by omega)])
                | (rw [if_neg (by omega), if_neg (by omega), if_pos (by omega)]; first | exact decide_eq_true (by omega) | exact decide_eq_false (by omega))
                | (rw [if_neg (by omega), if_neg (by omega), if_neg (by omega), if_pos (by omega)]; first | exact decide_eq_true (by omega) | exact decide_eq_false (by omega))
                | (rw [if_neg (by omega), if_neg (by omega), if_neg (by omega), if_neg (by omega), if_pos (by omega)]; first | exact decide_eq_true (by omega) | exact decide_eq_false (by omega))
                | (rw [if_neg (by omega), if_neg (by omega), if_neg (by omega), if_neg (by omega), if_neg (by omega)]; first | exact decide_eq_true (by omega) | exact decide_eq_false (by omega))
            exact rt_zp F hr hlk hW (by rw [hfit]; rfl) rfl dX3_fits_135
      · skip
        refine lv_tableIn (tgt := 94) hx hb dX3_fits_29 (by decide) (by decide) rfl (by decide) ?_
        refine lv_iload_n hx hb dX3_fits_94 rfl (lv_at hl 0 rfl) ?_
        refine lv_bipush (v := nI 108) hx hb dX3_fits_95 (by decide) ?_
        refine nv_ceq (tgt := 112) F (by omega) (by omega) dX3_fits_97 (by decide) (fun c_10 => ?_) (fun c_10 => ?_)
        · skip
          refine lv_iconst (v := nI 1) hx hb dX3_fits_112 (by decide) ?_
          refine lv_goto (tgt := 117) hx hb dX3_fits_113 (by decide) ?_
          have hfit : fitB ch k = true := by
            unfold fitB
            first
              | (rw [if_pos (by omega)]; first | exact decide_eq_true (by omega) | exact decide_eq_false (by omega))
              | (rw [if_neg (by omega), if_pos (by omega)])
              | (rw [if_neg (by omega), if_neg (by omega), if_pos (by omega)]; first | exact decide_eq_true (by omega) | exact decide_eq_false (by omega))
              | (rw [if_neg (by omega), if_neg (by omega), if_neg (by omega), if_pos (by omega)]; first | exact decide_eq_true (by omega) | exact decide_eq_false (by omega))
              | (rw [if_neg (by omega), if_neg (by omega), if_neg (by omega), if_neg (by omega), if_pos (by omega)]; first | exact decide_eq_true (by omega) | exact decide_eq_false (by omega))
              | (rw [if_neg (by omega), if_neg (by omega), if_neg (by omega), if_neg (by omega), if_neg (by omega)]; first | exact decide_eq_true (by omega) | exact decide_eq_false (by omega))
          exact rt_zp F hr hlk hW (by rw [hfit]; rfl) rfl dX3_fits_117
        · skip
          refine lv_iload_n hx hb dX3_fits_100 rfl (lv_at hl 0 rfl) ?_
          refine lv_bipush (v := nI 114) hx hb dX3_fits_101 (by decide) ?_
          refine nv_ceq (tgt := 112) F (by omega) (by omega) dX3_fits_103 (by decide) (fun c_11 => ?_) (fun c_11 => ?_)
          · skip
            refine lv_iconst (v := nI 1) hx hb dX3_fits_112 (by decide) ?_
            refine lv_goto (tgt := 117) hx hb dX3_fits_113 (by decide) ?_
            have hfit : fitB ch k = true := by
              unfold fitB
              first
                | (rw [if_pos (by omega)]; first | exact decide_eq_true (by omega) | exact decide_eq_false (by omega))
                | (rw [if_neg (by omega), if_pos (by omega)])
                | (rw [if_neg (by omega), if_neg (by omega), if_pos (by omega)]; first | exact decide_eq_true (by omega) | exact decide_eq_false (by omega))
                | (rw [if_neg (by omega), if_neg (by omega), if_neg (by omega), if_pos (by omega)]; first | exact decide_eq_true (by omega) | exact decide_eq_false (by omega))
                | (rw [if_neg (by omega), if_neg (by omega), if_neg (by omega), if_neg (by omega), if_pos (by omega)]; first | exact decide_eq_true (by omega) | exact decide_eq_false (by omega))
                | (rw [if_neg (by omega), if_neg (by omega), if_neg (by omega), if_neg (by omega), if_neg (by omega)]; first | exact decide_eq_true (by omega) | exact decide_eq_false (by omega))
            exact rt_zp F hr hlk hW (by rw [hfit]; rfl) rfl dX3_fits_117
          · skip
            refine lv_iload_n hx hb dX3_fits_106 rfl (lv_at hl 0 rfl) ?_
            refine lv_bipush (v := nI 109) hx hb dX3_fits_107 (by decide) ?_
            refine nv_cne (tgt := 116) F (by omega) (by omega) dX3_fits_109 (by decide) (fun c_12 => ?_) (fun c_12 => ?_)
            · skip
              refine lv_iconst (v := nI 0) hx hb dX3_fits_116 (by decide) ?_
              have hfit : fitB ch k = false := by
                unfold fitB
                first
                  | (rw [if_pos (by omega)]; first | exact decide_eq_true (by omega) | exact decide_eq_false (by omega))
                  | (rw [if_neg (by omega), if_pos (by omega)])
                  | (rw [if_neg (by omega), if_neg (by omega), if_pos (by omega)]; first | exact decide_eq_true (by omega) | exact decide_eq_false (by omega))
                  | (rw [if_neg (by omega), if_neg (by omega), if_neg (by omega), if_pos (by omega)]; first | exact decide_eq_true (by omega) | exact decide_eq_false (by omega))
                  | (rw [if_neg (by omega), if_neg (by omega), if_neg (by omega), if_neg (by omega), if_pos (by omega)]; first | exact decide_eq_true (by omega) | exact decide_eq_false (by omega))
                  | (rw [if_neg (by omega), if_neg (by omega), if_neg (by omega), if_neg (by omega), if_neg (by omega)]; first | exact decide_eq_true (by omega) | exact decide_eq_false (by omega))
              exact rt_zp F hr hlk hW (by rw [hfit]; rfl) rfl dX3_fits_117
            · skip
              refine lv_iconst (v := nI 1) hx hb dX3_fits_112 (by decide) ?_
              refine lv_goto (tgt := 117) hx hb dX3_fits_113 (by decide) ?_
              have hfit : fitB ch k = true := by
                unfold fitB
                first
                  | (rw [if_pos (by omega)]; first | exact decide_eq_true (by omega) | exact decide_eq_false (by omega))
                  | (rw [if_neg (by omega), if_pos (by omega)])
                  | (rw [if_neg (by omega), if_neg (by omega), if_pos (by omega)]; first | exact decide_eq_true (by omega) | exact decide_eq_false (by omega))
                  | (rw [if_neg (by omega), if_neg (by omega), if_neg (by omega), if_pos (by omega)]; first | exact decide_eq_true (by omega) | exact decide_eq_false (by omega))
                  | (rw [if_neg (by omega), if_neg (by omega), if_neg (by omega), if_neg (by omega), if_pos (by omega)]; first | exact decide_eq_true (by omega) | exact decide_eq_false (by omega))
                  | (rw [if_neg (by omega), if_neg (by omega), if_neg (by omega), if_neg (by omega), if_neg (by omega)]; first | exact decide_eq_true (by omega) | exact decide_eq_false (by omega))
              exact rt_zp F hr hlk hW (by rw [hfit]; rfl) rfl dX3_fits_117
    · skip
      refine lv_iconst (v := nI 0) hx hb dX3_fits_22 (by decide) ?_
      have hfit : fitB ch k = false := by
        unfold fitB
        first
          | (rw [if_pos (by omega)]; first | exact decide_eq_true (by omega) | exact decide_eq_false (by omega))
          | (rw [if_neg (by omega), if_pos (by omega)])
          | (rw [if_neg (by omega), if_neg (by omega), if_pos (by omega)]; first | exact decide_eq_true (by omega) | exact decide_eq_false (by omega))
          | (rw [if_neg (by omega), if_neg (by omega), if_neg (by omega), if_pos (by omega)]; first | exact decide_eq_true (by omega) | exact decide_eq_false (by omega))
          | (rw [if_neg (by omega), if_neg (by omega), if_neg (by omega), if_neg (by omega), if_pos (by omega)]; first | exact decide_eq_true (by omega) | exact decide_eq_false (by omega))
          | (rw [if_neg (by omega), if_neg (by omega), if_neg (by omega), if_neg (by omega), if_neg (by omega)]; first | exact decide_eq_true (by omega) | exact decide_eq_false (by omega))
      exact rt_zp F hr hlk hW (by rw [hfit]; rfl) rfl dX3_fits_23
  · skip
    refine lv_iload_n hx hb dX3_fits_4 rfl (lv_at hl 0 rfl) ?_
    refine lv_bipush (v := nI 65) hx hb dX3_fits_5 (by decide) ?_
    refine nv_cne (tgt := 14) F (by omega) (by omega) dX3_fits_7 (by decide) (fun c_13 => ?_) (fun c_13 => ?_)
    · skip
      refine lv_iconst (v := nI 0) hx hb dX3_fits_14 (by decide) ?_
      have hfit : fitB ch k = false := by
        unfold fitB
        first
          | (rw [if_pos (by omega)]; first | exact decide_eq_true (by omega) | exact decide_eq_false (by omega))
          | (rw [if_neg (by omega), if_pos (by omega)])
          | (rw [if_neg (by omega), if_neg (by omega), if_pos (by omega)]; first | exact decide_eq_true (by omega) | exact decide_eq_false (by omega))
          | (rw [if_neg (by omega), if_neg (by omega), if_neg (by omega), if_pos (by omega)]; first | exact decide_eq_true (by omega) | exact decide_eq_false (by omega))
          | (rw [if_neg (by omega), if_neg (by omega), if_neg (by omega), if_neg (by omega), if_pos (by omega)]; first | exact decide_eq_true (by omega) | exact decide_eq_false (by omega))
          | (rw [if_neg (by omega), if_neg (by omega), if_neg (by omega), if_neg (by omega), if_neg (by omega)]; first | exact decide_eq_true (by omega) | exact decide_eq_false (by omega))
      exact rt_zp F hr hlk hW (by rw [hfit]; rfl) rfl dX3_fits_15
    · skip
      refine lv_iconst (v := nI 1) hx hb dX3_fits_10 (by decide) ?_
      refine lv_goto (tgt := 15) hx hb dX3_fits_11 (by decide) ?_
      have hfit : fitB ch k = true := by
        unfold fitB
        first
          | (rw [if_pos (by omega)]; first | exact decide_eq_true (by omega) | exact decide_eq_false (by omega))
          | (rw [if_neg (by omega), if_pos (by omega)])
          | (rw [if_neg (by omega), if_neg (by omega), if_pos (by omega)]; first | exact decide_eq_true (by omega) | exact decide_eq_false (by omega))
          | (rw [if_neg (by omega), if_neg (by omega), if_neg (by omega), if_pos (by omega)]; first | exact decide_eq_true (by omega) | exact decide_eq_false (by omega))
          | (rw [if_neg (by omega), if_neg (by omega), if_neg (by omega), if_neg (by omega), if_pos (by omega)]; first | exact decide_eq_true (by omega) | exact decide_eq_false (by omega))
          | (rw [if_neg (by omega), if_neg (by omega), if_neg (by omega), if_neg (by omega), if_neg (by omega)]; first | exact decide_eq_true (by omega) | exact decide_eq_false (by omega))
      exact rt_zp F hr hlk hW (by rw [hfit]; rfl) rfl dX3_fits_15

set_option maxHeartbeats 4000000 in
set_option maxRecDepth 100000 in
theorem c_firstFault {cx : CX} (hI : xI cx) (l : Launch) {μ : ME} {b : Nat} {t : Nat → Nat} {n : Nat} (hb2 : b + 2 ≤ xN cx) (hT : textR cx μ b t n) (ht : tok t n) : MT cx l yX3_firstFault cX3_firstFault 2 (some .int) 1 21 [.ref (xa cx b)] μ (Pi cx μ (faultI t n)) := by
  refine mt_of hI (by decide) (Nat.le_of_ble_eq_true rfl) ?_
  intro p e s m below meth c ls F hr hlk hW hl
  have hx := F.1.1
  have hb := F.1.2.1
  have hts := F.1.2.2.2.2
  obtain ⟨f, h0, h1, hv⟩ := id hT
  have hn64 := ht.1
  have ht255 := ht.2
  have hl : lv_has ls 2 [(0, .ref (xa cx b))] := hl
  refine lv_iconst (v := nI 0) hx hb dX3_firstFault_0 (by decide) ?_
  refine lv_istore_n (lv' := [(1, .int (nI 0)), (0, .ref (xa cx b))]) hx hb dX3_firstFault_1 rfl hl (by decide) rfl (fun ls hl => ?_)
  have LOOP : ∀ (d i : Nat)  (H : Heap) (locs : List Loc) (ls : Array Slot), i + d = n → (ff t n 0 = ff t d i) → St cx s μ H locs → lv_has ls 2 [(0, .ref (xa cx b)), (1, .int (nI i))] → W p l e { frames := 1, cells := 0, slots := 0, locals := 21 } s m [.ref (xa cx b)].toArray below meth c H locs 0 0 (MQ below (Pi cx μ (faultI t n)) [.ref (xa cx b)].toArray s 0 0 (xA cx)) (F0 m 2 ls []) := by
    intro d
    induction d with
    | zero =>
      intro i   H locs ls hid hf hW hl
      refine lv_iload_n hx hb dX3_firstFault_2 rfl (lv_at hl 1 rfl) ?_
      refine lv_aload_n hx hb dX3_firstFault_3 rfl (lv_at hl 0 rfl) ?_
      refine nv_get F hW (by omega) h0 rfl iX3 1 (by decide) tw_68 rfl dX3_firstFault_4 ?_
      refine nv_cge (tgt := 31) F (by omega) (by omega) dX3_firstFault_7 (by decide) (fun c_1 => ?_) (fun c_1 => ?_)
      · skip
        refine lv_aload_n hx hb dX3_firstFault_31 rfl (lv_at hl 0 rfl) ?_
        refine nv_get F hW (by omega) h0 rfl iX3 1 (by decide) tw_68 rfl dX3_firstFault_32 ?_
        refine lv_iconst (v := nI 5) hx hb dX3_firstFault_35 (by decide) ?_
        refine nv_rem F (by omega) (by omega) (by omega) dX3_firstFault_36 ?_
        refine lv_iconst (v := nI 1) hx hb dX3_firstFault_37 (by decide) ?_
        refine nv_cne (tgt := 46) F (by omega) (by omega) dX3_firstFault_38 (by decide) (fun c_2 => ?_) (fun c_2 => ?_)
        · skip
          refine lv_aload_n hx hb dX3_firstFault_46 rfl (lv_at hl 0 rfl) ?_
          refine nv_get F hW (by omega) h0 rfl iX3 1 (by decide) tw_68 rfl dX3_firstFault_47 ?_
          exact rt_ip F hr hlk hW (by unfold faultI; rw [hf]; show _ = (if n % 5 = 1 then (-9 : Int32) else nI n); first | rw [if_pos (by assumption)] | rw [if_neg (by assumption)]) rfl dX3_firstFault_50
        · skip
          refine lv_bipush (v := (-9)) hx hb dX3_firstFault_41 (by decide) ?_
          refine lv_goto (tgt := 50) hx hb dX3_firstFault_43 (by decide) ?_
          exact rt_ip F hr hlk hW (by unfold faultI; rw [hf]; show _ = (if n % 5 = 1 then (-9 : Int32) else nI n); first | rw [if_pos (by assumption)] | rw [if_neg (by assumption)]) rfl dX3_firstFault_50
      · skip
        exact absurd c_1 (by omega)
    | succ d ih =>
      intro i   H locs ls hid hf hW hl
      refine lv_iload_n hx hb dX3_firstFault_2 rfl (lv_at hl 1 rfl) ?_
      refine lv_aload_n hx hb dX3_firstFault_3 rfl (lv_at hl 0 rfl) ?_
      refine nv_get F hW (by omega) h0 rfl iX3 1 (by decide) tw_68 rfl dX3_firstFault_4 ?_
      refine nv_cge (tgt := 31) F (by omega) (by omega) dX3_firstFault_7 (by decide) (fun c_3 => ?_) (fun c_3 => ?_)
      · skip
        exact absurd c_3 (by omega)
      · skip
        refine lv_aload_n hx hb dX3_firstFault_10 rfl (lv_at hl 0 rfl) ?_
        refine nv_get F hW (by omega) h0 rfl iX3 0 (by decide) tw_67 rfl dX3_firstFault_11 ?_
        refine lv_iload_n hx hb dX3_firstFault_14 rfl (lv_at hl 1 rfl) ?_
        refine nv_caldN (x := ((nI (t i)))) F hW (by omega) h1 (by omega) (by decide) (hv i (by omega)) dX3_firstFault_15 ?_
        refine lv_iload_n hx hb dX3_firstFault_16 rfl (lv_at hl 1 rfl) ?_
        refine cl_ip (cl_runS (rest := []) F hW e_X3_19 (c_fits hI l (t i) i (ht255 _ (by omega)) (by omega)) ⟨Nat.le_of_ble_eq_true rfl, Nat.le_of_ble_eq_true rfl⟩ rfl rfl hl (Nat.le_of_ble_eq_true rfl) dX3_firstFault_17 ⟨Nat.zero_le _, Nat.zero_le _⟩) hW (fun H locs hW => ?_)
        refine nv_bne (tgt := 25) F dX3_firstFault_20 (by decide) (fun c_4 => ?_) (fun c_4 => ?_)
        · skip
          refine lv_iinc (v := ((nI (i + 1)))) (lv' := [(1, .int (nI (i + 1))), (0, .ref (xa cx b))]) hx hb dX3_firstFault_25 hl (k := 1) rfl (nI_add _ _) (by decide) rfl (fun ls hl => ?_)
          refine lv_goto (tgt := 2) hx hb dX3_firstFault_28 (by decide) ?_
          exact ih (i + 1) _ _ _ (by omega) (by rw [hf]; show (if fitB (t i) i = true then ff t d (i + 1) else some i) = _; rw [if_pos (by assumption)]) hW (lv_sub hl [1, 0] rfl)
        · skip
          refine lv_iload_n hx hb dX3_firstFault_23 rfl (lv_at hl 1 rfl) ?_
          exact rt_ip F hr hlk hW (by unfold faultI; rw [hf]; show nI i = (match (if fitB (t i) i = true then ff t d (i + 1) else some i) with | some p => nI p | none => _); rw [if_neg (by simp [*])]) rfl dX3_firstFault_24
  exact LOOP n 0 _ _ _ (by omega) rfl hW (lv_sub hl [1, 0] rfl)

set_option maxHeartbeats 4000000 in
set_option maxRecDepth 100000 in
theorem c_houses {cx : CX} (hI : xI cx) (l : Launch) {μ : ME} {b : Nat} {t : Nat → Nat} {n : Nat} (hb2 : b + 2 ≤ xN cx) (hT : textR cx μ b t n) (ht : tok t n) : MT cx l yX3_houses cX3_houses 1 (some .int) 1 21 [.ref (xa cx b)] μ (Pi cx μ (nI (min 6 (n / 5)))) := by
  refine mt_of hI (by decide) (Nat.le_of_ble_eq_true rfl) ?_
  intro p e s m below meth c ls F hr hlk hW hl
  have hx := F.1.1
  have hb := F.1.2.1
  have hts := F.1.2.2.2.2
  obtain ⟨f, h0, h1, hv⟩ := id hT
  have hn64 := ht.1
  have ht255 := ht.2
  have hl : lv_has ls 1 [(0, .ref (xa cx b))] := hl
  refine lv_bipush (v := nI 6) hx hb dX3_houses_0 (by decide) ?_
  refine lv_aload_n hx hb dX3_houses_2 rfl (lv_at hl 0 rfl) ?_
  refine nv_get F hW (by omega) h0 rfl iX3 1 (by decide) tw_68 rfl dX3_houses_3 ?_
  refine lv_iconst (v := nI 5) hx hb dX3_houses_6 (by decide) ?_
  refine nv_div F (by omega) (by omega) (by omega) dX3_houses_7 ?_
  refine va_mmin hx hb (F.1.2.2.1.trans hl.1.symm) F.1.2.2.2.1 (hts _ tw_216) (hts _ tw_217) (hts _ tw_50) (hts _ tw_218) (Nat.le_of_ble_eq_true rfl) (Nat.le_of_ble_eq_true rfl) (Nat.zero_le _) (Nat.zero_le _) dX3_houses_8 ?_
  refine nv_top (y := ((nI (min 6 (n / 5))))) (min6 (by omega)) ?_
  exact rt_ip F hr hlk hW rfl rfl dX3_houses_11

set_option maxHeartbeats 4000000 in
set_option maxRecDepth 100000 in
theorem c_letterOf {cx : CX} (hI : xI cx) (l : Launch) {μ : ME} {b : Nat} {t : Nat → Nat} {n : Nat} (hb2 : b + 2 ≤ xN cx) (hT : textR cx μ b t n) (ht : tok t n) (j q : Nat) (hjq : 2 + 5 * j + q < n) : MT cx l yX3_letterOf cX3_letterOf 4 (some .char) 0 0 [.ref (xa cx b), .int (nI j), .int (nI q)] μ (Pi cx μ (nI (t (2 + 5 * j + q)))) := by
  refine mt_of hI (by decide) (Nat.le_of_ble_eq_true rfl) ?_
  intro p e s m below meth c ls F hr hlk hW hl
  have hx := F.1.1
  have hb := F.1.2.1
  have hts := F.1.2.2.2.2
  obtain ⟨f, h0, h1, hv⟩ := id hT
  have hn64 := ht.1
  have ht255 := ht.2
  have hl : lv_has ls 4 [(0, .ref (xa cx b)), (1, .int (nI j)), (2, .int (nI q))] := hl
  refine lv_iconst (v := nI 2) hx hb dX3_letterOf_0 (by decide) ?_
  refine lv_iconst (v := nI 5) hx hb dX3_letterOf_1 (by decide) ?_
  refine lv_iload_n hx hb dX3_letterOf_2 rfl (lv_at hl 1 rfl) ?_
  refine nv_mul F dX3_letterOf_3 ?_
  refine nv_add F dX3_letterOf_4 ?_
  refine lv_iload_n hx hb dX3_letterOf_5 rfl (lv_at hl 2 rfl) ?_
  refine nv_add F dX3_letterOf_6 ?_
  refine lv_istore_n (lv' := [(3, .int (nI ((2 + (5 * j)) + q))), (0, .ref (xa cx b)), (1, .int (nI j)), (2, .int (nI q))]) hx hb dX3_letterOf_7 rfl hl (by decide) rfl (fun ls hl => ?_)
  refine lv_iload_n hx hb dX3_letterOf_8 rfl (lv_at hl 0 rfl) ?_
  refine nv_zlt (tgt := 29) F (by omega) dX3_letterOf_9 (by decide) (fun c_1 => ?_) (fun c_1 => ?_)
  · skip
    exact absurd c_1 (by omega)
  · skip
    refine lv_iload_n hx hb dX3_letterOf_12 rfl (lv_at hl 0 rfl) ?_
    refine lv_aload_n hx hb dX3_letterOf_13 rfl (lv_at hl 1 rfl) ?_
    refine nv_get F hW (by omega) h0 rfl iX3 1 (by decide) tw_68 rfl dX3_letterOf_14 ?_
    refine nv_cge (tgt := 29) F (by omega) (by omega) dX3_letterOf_17 (by decide) (fun c_2 => ?_) (fun c_2 => ?_)
    · skip
      exact absurd c_2 (by omega)
    · skip
      refine lv_aload_n hx hb dX3_letterOf_20 rfl (lv_at hl 1 rfl) ?_
      refine nv_get F hW (by omega) h0 rfl iX3 0 (by decide) tw_67 rfl dX3_letterOf_21 ?_
      refine lv_iload_n hx hb dX3_letterOf_24 rfl (lv_at hl 0 rfl) ?_
      refine nv_caldN (x := ((nI (t ((2 + (5 * j)) + q))))) F hW (by omega) h1 (by omega) (by decide) (hv ((2 + (5 * j)) + q) (by omega)) dX3_letterOf_25 ?_
      refine lv_goto (tgt := 31) hx hb dX3_letterOf_26 (by decide) ?_
      exact rt_cp F hr hlk (char_nr (ht255 _ (by omega))) hW rfl rfl dX3_letterOf_31

set_option maxHeartbeats 4000000 in
set_option maxRecDepth 100000 in
theorem c_numberOf {cx : CX} (hI : xI cx) (l : Launch) {μ : ME} {b : Nat} {t : Nat → Nat} {n : Nat} (hb2 : b + 2 ≤ xN cx) (hT : textR cx μ b t n) (ht : tok t n) (j q : Nat) (hjq : 2 + 5 * j + q < n) (h48 : 48 ≤ t (2 + 5 * j + q)) : MT cx l yX3_numberOf cX3_numberOf 3 (some .int) 1 23 [.ref (xa cx b), .int (nI j), .int (nI q)] μ (Pi cx μ (nI (t (2 + 5 * j + q) - 48))) := by
  refine mt_of hI (by decide) (Nat.le_of_ble_eq_true rfl) ?_
  intro p e s m below meth c ls F hr hlk hW hl
  have hx := F.1.1
  have hb := F.1.2.1
  have hts := F.1.2.2.2.2
  obtain ⟨f, h0, h1, hv⟩ := id hT
  have hn64 := ht.1
  have ht255 := ht.2
  have hl : lv_has ls 3 [(0, .ref (xa cx b)), (1, .int (nI j)), (2, .int (nI q))] := hl
  refine lv_aload_n hx hb dX3_numberOf_0 rfl (lv_at hl 0 rfl) ?_
  refine lv_iload_n hx hb dX3_numberOf_1 rfl (lv_at hl 1 rfl) ?_
  refine lv_iload_n hx hb dX3_numberOf_2 rfl (lv_at hl 2 rfl) ?_
  refine cl_ip (cl_run (rest := []) F hW e_X3_29 (c_letterOf hI l hb2 hT ht j q (by omega)) ⟨Nat.le_of_ble_eq_true rfl, Nat.le_of_ble_eq_true rfl⟩ (by omega) h0 rfl rfl rfl hl (Nat.le_of_ble_eq_true rfl) dX3_numberOf_3 ⟨Nat.zero_le _, Nat.zero_le _⟩) hW (fun H locs hW => ?_)
  refine lv_bipush (v := nI 48) hx hb dX3_numberOf_6 (by decide) ?_
  refine nv_sub F h48 dX3_numberOf_8 ?_
  exact rt_ip F hr hlk hW rfl rfl dX3_numberOf_9

set_option maxHeartbeats 4000000 in
set_option maxRecDepth 100000 in
theorem c_tdeedOf {cx : CX} (hI : xI cx) (l : Launch) {μ : ME} {b : Nat} {t : Nat → Nat} {n : Nat} (hb2 : b + 2 ≤ xN cx) (hT : textR cx μ b t n) (ht : tok t n) (j : Nat) (hjq : 2 + 5 * j + 3 < n) : MT cx l yX3_deedOf cX3_deedOf 3 (some .int) 1 23 [.ref (xa cx b), .int (nI j)] μ (Pi cx μ (nI (deedN (t (2 + 5 * j + 3))))) := by
  refine mt_of hI (by decide) (Nat.le_of_ble_eq_true rfl) ?_
  intro p e s m below meth c ls F hr hlk hW hl
  have hx := F.1.1
  have hb := F.1.2.1
  have hts := F.1.2.2.2.2
  obtain ⟨f, h0, h1, hv⟩ := id hT
  have hn64 := ht.1
  have ht255 := ht.2
  have hl : lv_has ls 3 [(0, .ref (xa cx b)), (1, .int (nI j))] := hl
  refine lv_aload_n hx hb dX3_deedOf_0 rfl (lv_at hl 0 rfl) ?_
  refine lv_iload_n hx hb dX3_deedOf_1 rfl (lv_at hl 1 rfl) ?_
  refine lv_iconst (v := nI 3) hx hb dX3_deedOf_2 (by decide) ?_
  refine cl_ip (cl_run (rest := []) F hW e_X3_29 (c_letterOf hI l hb2 hT ht j 3 (by omega)) ⟨Nat.le_of_ble_eq_true rfl, Nat.le_of_ble_eq_true rfl⟩ (by omega) h0 rfl rfl rfl hl (Nat.le_of_ble_eq_true rfl) dX3_deedOf_3 ⟨Nat.zero_le _, Nat.zero_le _⟩) hW (fun H locs hW => ?_)
  refine lv_istore_n (lv' := [(2, .int (nI (t (2 + 5 * j + 3)))), (0, .ref (xa cx b)), (1, .int (nI j))]) hx hb dX3_deedOf_6 rfl hl (by decide) rfl (fun ls hl => ?_)
  refine lv_iload_n hx hb dX3_deedOf_7 rfl (lv_at hl 0 rfl) ?_
  refine lv_bipush (v := nI 108) hx hb dX3_deedOf_8 (by decide) ?_
  refine nv_cne (tgt := 15) F (by have := ht255 (2 + 5 * j + 3) hjq; omega) (by omega) dX3_deedOf_10 (by decide) (fun c_1 => ?_) (fun c_1 => ?_)
  · skip
    refine lv_iload_n hx hb dX3_deedOf_15 rfl (lv_at hl 0 rfl) ?_
    refine lv_bipush (v := nI 114) hx hb dX3_deedOf_16 (by decide) ?_
    refine nv_cne (tgt := 25) F (by have := ht255 (2 + 5 * j + 3) hjq; omega) (by omega) dX3_deedOf_18 (by decide) (fun c_2 => ?_) (fun c_2 => ?_)
    · skip
      refine lv_iconst (v := nI 2) hx hb dX3_deedOf_25 (by decide) ?_
      exact rt_ip F hr hlk hW (by unfold deedN; simp [*]) rfl dX3_deedOf_26
    · skip
      refine lv_iconst (v := nI 1) hx hb dX3_deedOf_21 (by decide) ?_
      refine lv_goto (tgt := 26) hx hb dX3_deedOf_22 (by decide) ?_
      exact rt_ip F hr hlk hW (by unfold deedN; simp [*]) rfl dX3_deedOf_26
  · skip
    refine lv_iconst (v := nI 0) hx hb dX3_deedOf_13 (by decide) ?_
    exact rt_ip F hr hlk hW (by unfold deedN; simp [*]) rfl dX3_deedOf_14

set_option maxHeartbeats 4000000 in
set_option maxRecDepth 100000 in
theorem c_standUp0 {cx : CX} (hI : xI cx) (l : Launch) {μ : ME} {b : Nat} {L : LN} (hb7 : b + 7 ≤ xN cx) (hL : laneR cx μ b L) (hn6 : Ln L ≤ 6) (j : Nat) (hj : j < Ln L) : MT cx l yX0_standUp cX0_standUp 2 none 0 0 [.ref (xa cx b), .int (nI j)] μ (Qv cx (fun μ1 => laneR cx μ1 b (upL L j) ∧ off b 7 μ μ1)) := by
  refine mt_of hI (by decide) (Nat.le_of_ble_eq_true rfl) ?_
  intro p e s m below meth c ls F hr hlk hW hl
  have hx := F.1.1
  have hb := F.1.2.1
  have hts := F.1.2.2.2.2
  obtain ⟨fk, fs, fg, fd, fl, fc, h0, h1, h2, h3, h4, h5, h6, hv, hv2⟩ := id hL
  have hl : lv_has ls 2 [(0, .ref (xa cx b)), (1, .int (nI j))] := hl
  refine lv_aload_n hx hb dX0_standUp_0 rfl (lv_at hl 0 rfl) ?_
  refine lv_dup hx hb dX0_standUp_1 rfl ?_
  refine nv_get F hW (by omega) h0 rfl iX0 7 (by decide) tw_88 rfl dX0_standUp_2 ?_
  refine lv_iconst (v := nI 1) hx hb dX0_standUp_5 (by decide) ?_
  refine lv_iload_n hx hb dX0_standUp_6 rfl (lv_at hl 1 rfl) ?_
  refine nv_shl F (by omega) (pow2_lt (by omega)) dX0_standUp_7 ?_
  refine nv_top (y := ((nI (2 ^ j)))) (by rw [Nat.one_mul]) ?_
  refine nv_or F dX0_standUp_8 ?_
  refine nv_put F hW (by omega) h0 rfl iX0 tyX0 tyX0_ok nmX0 7 (by decide) tw_88 rfl rfl rfl (Nat.le_of_ble_eq_true rfl) dX0_standUp_9 (fun H locs hW => ?_)
  obtain ⟨μ1, eμ1⟩ : ∃ z : ME, z = va_up μ b (.inr (0, [.ref (xa cx (b + 1)), .ref (xa cx (b + 2)), .ref (xa cx (b + 3)), .ref (xa cx (b + 4)), .ref (xa cx (b + 5)), .ref (xa cx (b + 6)), .int (nI (Ln L)), .int (nI ((LU L) ||| (2 ^ j))), .int (nI (Lh L))])) := ⟨_, rfl⟩
  have hW : St cx s μ1 H locs := by rw [eμ1]; exact hW
  have hb_1 : μ1 b = .inr (0, [.ref (xa cx (b + 1)), .ref (xa cx (b + 2)), .ref (xa cx (b + 3)), .ref (xa cx (b + 4)), .ref (xa cx (b + 5)), .ref (xa cx (b + 6)), .int (nI (Ln L)), .int (nI ((LU L) ||| (2 ^ j))), .int (nI (Lh L))]) := by rw [eμ1, va_up_self]
  have hb_1_1 := (congrFun eμ1 (b + 1)).trans ((va_up_ne _ _ (by omega)).trans h1)
  have hb_2_1 := (congrFun eμ1 (b + 2)).trans ((va_up_ne _ _ (by omega)).trans h2)
  have hb_3_1 := (congrFun eμ1 (b + 3)).trans ((va_up_ne _ _ (by omega)).trans h3)
  have hb_4_1 := (congrFun eμ1 (b + 4)).trans ((va_up_ne _ _ (by omega)).trans h4)
  have hb_5_1 := (congrFun eμ1 (b + 5)).trans ((va_up_ne _ _ (by omega)).trans h5)
  have hb_6_1 := (congrFun eμ1 (b + 6)).trans ((va_up_ne _ _ (by omega)).trans h6)
  refine lv_aload_n hx hb dX0_standUp_12 rfl (lv_at hl 0 rfl) ?_
  refine nv_get F hW (by omega) hb_1 rfl iX0 4 (by decide) tw_85 rfl dX0_standUp_13 ?_
  refine lv_iload_n hx hb dX0_standUp_16 rfl (lv_at hl 1 rfl) ?_
  refine lv_aload_n hx hb dX0_standUp_17 rfl (lv_at hl 0 rfl) ?_
  refine nv_get F hW (by omega) hb_1 rfl iX0 1 (by decide) tw_82 rfl dX0_standUp_18 ?_
  refine lv_iload_n hx hb dX0_standUp_21 rfl (lv_at hl 1 rfl) ?_
  refine nv_ialdN (x := ((nI (Ls L j)))) F hW (by omega) hb_2_1 (by omega) (by decide) (hv j (by omega)).2.1 dX0_standUp_22 ?_
  refine nv_iastN F hW (by omega) hb_5_1 (by omega) (by decide) dX0_standUp_23 (fun H locs hW => ?_)
  obtain ⟨μ2, eμ2⟩ : ∃ z : ME, z = va_up μ1 (b + 5) (.inl (xT cx 0, 6, .inl (upd fl j ((nI (Ls L j)))))) := ⟨_, rfl⟩
  have hW : St cx s μ2 H locs := by rw [eμ2]; exact hW
  have hb_2 := (congrFun eμ2 b).trans ((va_up_ne _ _ (by omega)).trans hb_1)
  have hb_1_2 := (congrFun eμ2 (b + 1)).trans ((va_up_ne _ _ (by omega)).trans hb_1_1)
  have hb_2_2 := (congrFun eμ2 (b + 2)).trans ((va_up_ne _ _ (by omega)).trans hb_2_1)
  have hb_3_2 := (congrFun eμ2 (b + 3)).trans ((va_up_ne _ _ (by omega)).trans hb_3_1)
  have hb_4_2 := (congrFun eμ2 (b + 4)).trans ((va_up_ne _ _ (by omega)).trans hb_4_1)
  have hb_5_2 : μ2 (b + 5) = .inl (xT cx 0, 6, .inl (upd fl j ((nI (Ls L j))))) := by rw [eμ2, va_up_self]
  have hb_6_2 := (congrFun eμ2 (b + 6)).trans ((va_up_ne _ _ (by omega)).trans hb_6_1)
  exact rt_v F hr hlk hW ⟨⟨fk, fs, fg, fd, (upd fl j ((nI (Ls L j)))), fc, hb_2, hb_1_2, hb_2_2, hb_3_2, hb_4_2, hb_5_2, hb_6_2, hv, fun i hi => by
      rw [lst_up hj] at hi
      unfold upd
      show (if i = j then nI (Ls L j) else fl i) = nI (if i = j then Ls L j else Ll L i)
      by_cases e : i = j
      · rw [if_pos e, if_pos e]
      · rw [if_neg e, if_neg e]
        exact hv2 i (by simpa [e] using hi)⟩, (fun z hz => by rw [eμ2, va_up_ne _ _ (by omega)]; rw [eμ1, va_up_ne _ _ (by omega)])⟩ dX0_standUp_24
