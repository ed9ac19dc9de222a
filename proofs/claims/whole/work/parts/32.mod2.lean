/-- behind a change of a level: only it, the loads and who falls have changed -/
def lvP (cx : CX) (μ : ME) (lvl : Nat) (M : LN) (μ1 : ME) : Prop := ∃ fn0 fn1 fo1 fa1 : Nat → Int32, μ 138 = .inl (xT cx 0, 62, .inl fn0) ∧ μ1 138 = .inl (xT cx 0, 62, .inl fn1) ∧ μ1 141 = .inl (xT cx 0, 6, .inl fo1) ∧ μ1 142 = .inl (xT cx 0, 6, .inl fa1) ∧ (∀ i, ¬ i = 138 → ¬ i = 141 → ¬ i = 142 → μ1 i = μ i) ∧ (∀ i, (i < 31 * lvl ∨ 31 * lvl + 31 ≤ i) → fn1 i = fn0 i) ∧ lv fn1 (31 * lvl) M
def lpR (L : LN) (h e : Nat) : Nat := Ls L h + (if 0 < h ∧ h - 1 < e ∧ Ld L (h - 1) = 1 then lgi L (h - 1) else 0) + (if h + 1 < e ∧ Ld L (h + 1) = 0 then lgi L (h + 1) else 0)
theorem lpR_0 (L : LN) (h : Nat) : lpR L h 0 = Ls L h := by
  unfold lpR
  rw [if_neg (by omega), if_neg (by omega)]
  rfl
theorem lpR_n {L : LN} {h : Nat} (hh : h < Ln L) : lpR L h (Ln L) = lnew L h := by
  unfold lpR lnew lfrL lfrR
  congr 1
  · congr 1
    by_cases q : 0 < h ∧ Ld L (h - 1) = 1
    · rw [if_pos q, if_pos ⟨q.1, by omega, q.2⟩]
    · rw [if_neg q, if_neg (fun z => q ⟨z.1, z.2.2⟩)]
  · by_cases q : Ld L (h + 1) = 0
    · rw [if_pos q]
      by_cases q2 : h + 1 < Ln L
      · rw [if_pos ⟨q2, q⟩]
      · rw [if_neg (fun z => q2 z.1)]
        unfold lgi
        rw [if_neg]
        intro z
        exact q2 (lst_n z)
    · rw [if_neg q, if_neg (fun z => q z.2)]
theorem ln_eq {d e h : Nat} (he : e < 1000) (hh : h < 1000) : lnI d e = nI h ↔ (d = 0 ∧ e = h + 1) ∨ (d = 1 ∧ h = e + 1) := by
  unfold lnI
  split
  · by_cases h0 : e = 0
    · subst h0
      rw [sup_0]
      constructor
      · intro q
        exact absurd q.symm (nI_ne (by omega) (by decide))
      · intro q; omega
    · rw [pk_sub (by omega), nI_eq (by omega) (by omega)]
      omega
  · split
    · rw [nI_eq (by omega) (by omega)]
      omega
    · constructor
      · intro q
        exact absurd q.symm (nI_ne (by omega) (by decide))
      · intro q; omega
theorem lpR_go {L : LN} {h e : Nat} (k : (Ld L e = 0 ∧ e = h + 1) ∨ (Ld L e = 1 ∧ h = e + 1)) : lpR L h (e + 1) = lpR L h e + lgi L e := by
  unfold lpR
  rcases k with ⟨k1, rfl⟩ | ⟨k1, rfl⟩
  · rw [if_pos (c := h + 1 < h + 1 + 1 ∧ Ld L (h + 1) = 0) ⟨by omega, k1⟩, if_neg (c := h + 1 < h + 1 ∧ Ld L (h + 1) = 0) (by omega)]
    by_cases q : 0 < h ∧ Ld L (h - 1) = 1
    · rw [if_pos ⟨q.1, by omega, q.2⟩, if_pos ⟨q.1, by omega, q.2⟩]
      all_goals omega
    · rw [if_neg (fun z => q ⟨z.1, z.2.2⟩), if_neg (fun z => q ⟨z.1, z.2.2⟩)]
      all_goals omega
  · rw [if_pos (c := 0 < e + 1 ∧ e + 1 - 1 < e + 1 ∧ Ld L (e + 1 - 1) = 1) ⟨by omega, by omega, by rw [Nat.add_sub_cancel]; exact k1⟩, if_neg (c := 0 < e + 1 ∧ e + 1 - 1 < e ∧ Ld L (e + 1 - 1) = 1) (by omega), if_neg (by omega), if_neg (by omega), Nat.add_sub_cancel]
    omega
theorem lpR_stay {L : LN} {h e : Nat} (k : ¬ ((Ld L e = 0 ∧ e = h + 1) ∨ (Ld L e = 1 ∧ h = e + 1))) : lpR L h (e + 1) = lpR L h e := by
  unfold lpR
  congr 1
  · congr 1
    by_cases q : 0 < h ∧ h - 1 < e ∧ Ld L (h - 1) = 1
    · rw [if_pos q, if_pos ⟨q.1, by omega, q.2.2⟩]
    · rw [if_neg q]
      by_cases q2 : 0 < h ∧ h - 1 < e + 1 ∧ Ld L (h - 1) = 1
      · have e1 : h - 1 = e := by
          by_cases z : h - 1 < e
          · exact absurd ⟨q2.1, z, q2.2.2⟩ q
          · omega
        exact absurd (Or.inr ⟨by rw [← e1]; exact q2.2.2, by omega⟩) k
      · rw [if_neg q2]
  · by_cases q : h + 1 < e ∧ Ld L (h + 1) = 0
    · rw [if_pos q, if_pos ⟨by omega, q.2⟩]
    · rw [if_neg q]
      by_cases q2 : h + 1 < e + 1 ∧ Ld L (h + 1) = 0
      · have e1 : h + 1 = e := by
          by_cases z : h + 1 < e
          · exact absurd ⟨z, q2.2⟩ q
          · omega
        exact absurd (Or.inl ⟨by rw [← e1]; exact q2.2, e1.symm⟩) k
      · rw [if_neg q2]
def midL (L : LN) (i : Nat) : LN := setl L (fun t => if t < i then (if lst L t then lnew L t else 0) else Ll L t)
theorem lok_mid {L : LN} {B : Nat} (hk : lok L B) (i : Nat) : lok (midL L i) (2 * B + 600) := by
  have hs := lok_step hk
  obtain ⟨h1, h2, h3, h4, h5, h6, h7⟩ := hk
  refine ⟨h1, h2, by show Lh L ≤ _; omega, h4, h5, fun t ht => ?_, ?_⟩
  · show (if t < i then (if lst L t = true then lnew L t else 0) else Ll L t) = 0
    have ht : lst L t = false := ht
    split
    · rw [ht]; rfl
    · exact h6 t ht
  · have e : ∀ t, Ll (midL L i) t ≤ Ll L t + Ll (lstep L) t := by
      intro t
      show (if t < i then (if lst L t = true then lnew L t else 0) else Ll L t) ≤ Ll L t + (if lst L t = true then lnew L t else 0)
      split <;> omega
    have h8 := hs.2.2.2.2.2.2
    have e0 := e 0
    have e1 := e 1
    have e2 := e 2
    have e3 := e 3
    have e4 := e 4
    have e5 := e 5
    omega
theorem lv_ext {f : Nat → Int32} {o : Nat} {L M : LN} (h : lv f o L) (h1 : Ln L = Ln M) (h3 : Lh L = Lh M) (h4 : ∀ i, i < Ln L → Lk L i = Lk M i ∧ Ls L i = Ls M i ∧ Ld L i = Ld M i ∧ lst L i = lst M i ∧ Ll L i = Ll M i) : lv f o M := by
  refine ⟨fun i hi => ?_, by rw [← h3]; exact h.2⟩
  rw [← h1] at hi
  have a := h.1 i hi
  have b := h4 i hi
  rw [← b.1, ← b.2.1, ← b.2.2.1, ← b.2.2.2.1, ← b.2.2.2.2]
  exact a
theorem lv_upd {f : Nat → Int32} {o q : Nat} {x : Int32} {L : LN} (h : lv f o L) (hn : Ln L ≤ 6) (hq : q < o ∨ o + 31 ≤ q) : lv (upd f q x) o L := lv_cong h hn (fun i h1 h2 => by unfold upd; rw [if_neg (by omega)])
theorem upd_ne {f : Nat → Int32} {k j : Nat} {x : Int32} (h : ¬ j = k) : upd f k x j = f j := by unfold upd; rw [if_neg h]
theorem upd_eq {f : Nat → Int32} {k j : Nat} {x : Int32} (h : j = k) : upd f k x j = x := by unfold upd; rw [if_pos h]
theorem lv_mid0 {f : Nat → Int32} {o : Nat} {L : LN} (h : lv f o L) : lv f o (midL L 0) := lv_ext h rfl rfl (fun i _ => ⟨rfl, rfl, rfl, rfl, by show Ll L i = if i < 0 then (if lst L i = true then lnew L i else 0) else Ll L i; rw [if_neg (by omega)]⟩)
theorem lv_mid {f : Nat → Int32} {o i : Nat} {L : LN} (h : lv f o (midL L i)) (hn : Ln L ≤ 6) (hi : i < Ln L) : lv (upd f (o + 24 + i) (nI (if lst L i then lnew L i else 0))) o (midL L (i + 1)) := by
  refine ⟨fun t ht => ?_, ?_⟩
  · have ht : t < Ln L := ht
    have a := h.1 t ht
    rw [upd_ne (by omega), upd_ne (by omega), upd_ne (by omega), upd_ne (by omega)]
    refine ⟨a.1, a.2.1, a.2.2.1, a.2.2.2.1, ?_⟩
    show _ = nI (if t < i + 1 then (if lst L t = true then lnew L t else 0) else Ll L t)
    by_cases e : t = i
    · subst e
      rw [upd_eq rfl, if_pos (show t < t + 1 by omega)]
    · rw [upd_ne (by omega), a.2.2.2.2]
      show nI (if t < i then _ else _) = _
      by_cases e2 : t < i
      · rw [if_pos e2, if_pos (show t < i + 1 by omega)]
      · rw [if_neg e2, if_neg (show ¬ t < i + 1 by omega)]
  · rw [upd_ne (by omega)]
    exact h.2
theorem lv_midn {f : Nat → Int32} {o : Nat} {L : LN} (h : lv f o (midL L (Ln L))) : lv f o (lstep L) := lv_ext h rfl rfl (fun i hi => ⟨rfl, rfl, rfl, rfl, by show (if i < Ln L then _ else _) = (if lst L i = true then lnew L i else 0); rw [if_pos (show i < Ln L from hi)]⟩)
/-- i houses have been made to fall -/
def fhL (L : LN) (i : Nat) : LN := (Ln L, Lk L, Ls L, Lg L, Ld L, (fun t => if t < i then Ll (hour L) t else Ll (lstep L) t), bitsOf (fun t => if t < i then lst (hour L) t else lst L t) (Ln L), Lh L)
theorem lst_fh {L : LN} {i t : Nat} (ht : t < Ln L) : lst (fhL L i) t = if t < i then lst (hour L) t else lst L t := by
  show (decide (t < Ln L) && (bitsOf (fun t => if t < i then lst (hour L) t else lst L t) (Ln L)).testBit t) = _
  rw [testBit_bitsOf, decide_eq_true ht]
  rfl
theorem lv_fh0 {f : Nat → Int32} {o : Nat} {L : LN} (h : lv f o (lstep L)) : lv f o (fhL L 0) := lv_ext h rfl rfl (fun i hi => ⟨rfl, rfl, rfl, by rw [lst_fh (L := L) (i := 0) hi, if_neg (by omega)]; rfl, by show Ll (lstep L) i = if i < 0 then Ll (hour L) i else Ll (lstep L) i; rw [if_neg (by omega)]⟩)
theorem lv_fh {f : Nat → Int32} {o i : Nat} {L : LN} (h : lv f o (fhL L i)) (hn : Ln L ≤ 6) (hi : i < Ln L) : lv (upd (upd f (o + 18 + i) (nI (if lst (hour L) i then 1 else 0))) (o + 24 + i) (nI (Ll (hour L) i))) o (fhL L (i + 1)) := by
  refine ⟨fun t ht => ?_, ?_⟩
  · have ht : t < Ln L := ht
    have a := h.1 t ht
    rw [lst_fh ht] at a
    rw [lst_fh ht]
    refine ⟨?_, ?_, ?_, ?_, ?_⟩
    · rw [upd_ne (by omega), upd_ne (by omega)]; exact a.1
    · rw [upd_ne (by omega), upd_ne (by omega)]; exact a.2.1
    · rw [upd_ne (by omega), upd_ne (by omega)]; exact a.2.2.1
    · rw [upd_ne (by omega)]
      by_cases e : t = i
      · subst e
        rw [upd_eq rfl, if_pos (show t < t + 1 by omega)]
      · rw [upd_ne (by omega), a.2.2.2.1]
        by_cases e2 : t < i
        · rw [if_pos e2, if_pos (show t < i + 1 by omega)]
        · rw [if_neg e2, if_neg (show ¬ t < i + 1 by omega)]
    · show _ = nI (if t < i + 1 then Ll (hour L) t else Ll (lstep L) t)
      by_cases e : t = i
      · subst e
        rw [upd_eq rfl, if_pos (show t < t + 1 by omega)]
      · rw [upd_ne (by omega), upd_ne (by omega), a.2.2.2.2]
        show nI (if t < i then _ else _) = _
        by_cases e2 : t < i
        · rw [if_pos e2, if_pos (show t < i + 1 by omega)]
        · rw [if_neg e2, if_neg (show ¬ t < i + 1 by omega)]
  · rw [upd_ne (by omega), upd_ne (by omega)]
    exact h.2
theorem lv_fhn {f : Nat → Int32} {o : Nat} {L : LN} (h : lv f o (fhL L (Ln L))) (hn : Ln L ≤ 6) : lv (upd f (o + 30) (nI (Lh L + 1))) o (hour L) := by
  refine ⟨fun t ht => ?_, ?_⟩
  · have ht : t < Ln L := ht
    have a := h.1 t ht
    rw [lst_fh ht, if_pos ht] at a
    rw [upd_ne (by omega), upd_ne (by omega), upd_ne (by omega), upd_ne (by omega), upd_ne (by omega)]
    refine ⟨a.1, a.2.1, a.2.2.1, a.2.2.2.1, a.2.2.2.2.trans ?_⟩
    show nI (if t < Ln L then Ll (hour L) t else _) = _
    rw [if_pos ht]
  · rw [upd_eq rfl]
    rfl
theorem hour_st {L : LN} {i : Nat} : (if lst (hour L) i then 1 else 0) = (if lst L i then 1 else 0) - (if (hF L).testBit i then 1 else 0) := by
  rw [lst_hour]
  cases lst L i <;> cases (hF L).testBit i <;> rfl
theorem hF_sub {L : LN} {i : Nat} (h : (hF L).testBit i = true) : lst L i = true := by
  unfold hF at h
  rw [testBit_bitsOf] at h
  simp only [Bool.and_eq_true, decide_eq_true_eq] at h
  have := h.2
  unfold lfall at this
  simp only [Bool.and_eq_true] at this
  exact this.1

set_option maxHeartbeats 4000000 in
set_option maxRecDepth 100000 in
theorem m_hourOn {cx : CX} (hI : xI cx) (l : Launch) {μ : ME} {lvl : Nat} {L : LN} {B : Nat} (hN : 149 ≤ xN cx) (hV : mdV cx μ lvl L) (hk : lok L B) (hlv : lvl ≤ 1) (hB : B < 400000000) : MT cx l yX5_hourOn cX5_hourOn 7 (some .int) 3 69 [.ref (xa cx 136), .int (nI lvl)] μ (Ei cx (nI (hF L)) (lvP cx μ lvl (hour L))) := by
  refine mt_of hI (by decide) (Nat.le_of_ble_eq_true rfl) ?_
  intro p e s m below meth c ls F hr hlk hW hl
  have hx := F.1.1
  have hb := F.1.2.1
  have hts := F.1.2.2.2.2
  obtain ⟨rh, tn, ac, nx, se, sx, f1, fn, fo, fa, g136, g137, g138, g141, g142, hg, hv⟩ := id hV
  have hn6 := hk.1
  have hk4 := hk.2.2.2.1
  have hU := lok_U hk
  have hl : lv_has ls 7 [(0, .ref (xa cx 136)), (1, .int (nI lvl))] := hl
  refine lv_bipush (v := nI 31) hx hb dX5_hourOn_0 (by decide) ?_
  refine lv_iload_n hx hb dX5_hourOn_2 rfl (lv_at hl 1 rfl) ?_
  refine nv_mul F dX5_hourOn_3 ?_
  refine lv_istore_n (lv' := [(2, .int (nI (31 * lvl))), (0, .ref (xa cx 136)), (1, .int (nI lvl))]) hx hb dX5_hourOn_4 rfl hl (by decide) rfl (fun ls hl => ?_)
  refine lv_iconst (v := nI 0) hx hb dX5_hourOn_5 (by decide) ?_
  refine lv_istore_n (lv' := [(3, .int (nI 0)), (2, .int (nI (31 * lvl))), (0, .ref (xa cx 136)), (1, .int (nI lvl))]) hx hb dX5_hourOn_6 rfl hl (by decide) rfl (fun ls hl => ?_)
  have LOOP7 : ∀ (d7 i : Nat) (g : Nat → Int32) (μ1 : ME) (H : Heap) (locs : List Loc) (ls : Array Slot), i + d7 = Ln L → (μ1 141 = .inl (xT cx 0, 6, .inl g)) → (∀ z, ¬ z = 141 → μ1 z = μ z) → (∀ t, t < i → g t = nI (lnew L t)) → St cx s μ1 H locs → lv_has ls 7 [(0, .ref (xa cx 136)), (1, .int (nI lvl)), (2, .int (nI (31 * lvl))), (3, .int (nI i))] → W p l e { frames := 3, cells := 0, slots := 0, locals := 69 } s m [.ref (xa cx 136), .int (nI lvl)].toArray below meth c H locs 0 0 (MQ below (Ei cx (nI (hF L)) (lvP cx μ lvl (hour L))) [.ref (xa cx 136), .int (nI lvl)].toArray s 0 0 (xA cx)) (F0 m 7 ls []) := by
    intro d7
    induction d7 with
    | zero =>
      intro i g μ1 H locs ls hid hm hmo hgt hW hl
      have k136 := (hmo 136 (by omega)).trans g136
      have k137 := (hmo 137 (by omega)).trans g137
      have k138 := (hmo 138 (by omega)).trans g138
      have k142 := (hmo 142 (by omega)).trans g142
      have hV1 : mdV cx μ1 lvl L := ⟨rh, tn, ac, nx, se, sx, f1, fn, g, fa, k136, k137, k138, hm, k142, hg, hv⟩
      refine lv_iload_n hx hb dX5_hourOn_7 rfl (lv_at hl 3 rfl) ?_
      refine lv_aload_n hx hb dX5_hourOn_8 rfl (lv_at hl 0 rfl) ?_
      refine nv_get F hW (by omega) k136 rfl iX5 0 (by decide) tw_629 rfl dX5_hourOn_9 ?_
      refine nv_cge (tgt := 90) F (by omega) (by omega) dX5_hourOn_12 (by decide) (fun c_1 => ?_) (fun c_1 => ?_)
      · skip
        refine lv_iconst (v := nI 0) hx hb dX5_hourOn_90 (by decide) ?_
        refine lv_istore_n (lv' := [(3, .int (nI 0)), (0, .ref (xa cx 136)), (1, .int (nI lvl)), (2, .int (nI (31 * lvl)))]) hx hb dX5_hourOn_91 rfl hl (by decide) rfl (fun ls hl => ?_)
        have hgn : ∀ t, t < Ln L → g t = nI (lnew L t) := fun t ht => hgt t (by omega)
        have LOOP92 : ∀ (d92 i2 : Nat) (q : Nat → Int32) (μ2 : ME) (H : Heap) (locs : List Loc) (ls : Array Slot), i2 + d92 = Ln L → (μ2 138 = .inl (xT cx 0, 62, .inl q)) → (μ2 141 = .inl (xT cx 0, 6, .inl g)) → (∀ z, ¬ z = 138 → ¬ z = 141 → μ2 z = μ z) → (∀ z, (z < 31 * lvl ∨ 31 * lvl + 31 ≤ z) → q z = fn z) → (lv q (31 * lvl) (midL L i2)) → St cx s μ2 H locs → lv_has ls 7 [(0, .ref (xa cx 136)), (1, .int (nI lvl)), (2, .int (nI (31 * lvl))), (3, .int (nI i2))] → W p l e { frames := 3, cells := 0, slots := 0, locals := 69 } s m [.ref (xa cx 136), .int (nI lvl)].toArray below meth c H locs 0 0 (MQ below (Ei cx (nI (hF L)) (lvP cx μ lvl (hour L))) [.ref (xa cx 136), .int (nI lvl)].toArray s 0 0 (xA cx)) (F0 m 92 ls []) := by
          intro d92
          induction d92 with
          | zero =>
            intro i2 q μ2 H locs ls hid hq138 hq141 hqo hqf hlq hW hl
            have k136 := (hqo 136 (by omega) (by omega)).trans g136
            have k137 := (hqo 137 (by omega) (by omega)).trans g137
            have k142 := (hqo 142 (by omega) (by omega)).trans g142
            have hV2 : mdV cx μ2 lvl (midL L i2) := ⟨rh, tn, ac, nx, se, sx, f1, q, g, fa, k136, k137, hq138, hq141, k142, hg, hlq⟩
            have hk2 := lok_mid hk i2
            refine lv_iload_n hx hb dX5_hourOn_92 rfl (lv_at hl 3 rfl) ?_
            refine lv_aload_n hx hb dX5_hourOn_93 rfl (lv_at hl 0 rfl) ?_
            refine nv_get F hW (by omega) k136 rfl iX5 0 (by decide) tw_629 rfl dX5_hourOn_94 ?_
            refine nv_cge (tgt := 139) F (by omega) (by omega) dX5_hourOn_97 (by decide) (fun c_2 => ?_) (fun c_2 => ?_)
            · skip
              refine lv_iconst (v := nI 0) hx hb dX5_hourOn_139 (by decide) ?_
              refine lv_istore_n (lv' := [(3, .int (nI 0)), (0, .ref (xa cx 136)), (1, .int (nI lvl)), (2, .int (nI (31 * lvl)))]) hx hb dX5_hourOn_140 rfl hl (by decide) rfl (fun ls hl => ?_)
              refine lv_iconst (v := nI 0) hx hb dX5_hourOn_141 (by decide) ?_
              refine lv_istore (lv' := [(4, .int (nI 0)), (3, .int (nI 0)), (0, .ref (xa cx 136)), (1, .int (nI lvl)), (2, .int (nI (31 * lvl)))]) hx hb dX5_hourOn_142 hl (by decide) rfl (fun ls hl => ?_)
              have hls : lv q (31 * lvl) (lstep L) := lv_midn (by rw [show Ln L = i2 by omega]; exact hlq)
              have hV3 : mdV cx μ2 lvl (lstep L) := ⟨rh, tn, ac, nx, se, sx, f1, q, g, fa, k136, k137, hq138, hq141, k142, hg, hls⟩
              have hk3 := lok_step hk
              have LOOP144 : ∀ (d144 i3 : Nat)  (H : Heap) (locs : List Loc) (ls : Array Slot), i3 + d144 = Ln L → St cx s μ2 H locs → lv_has ls 7 [(0, .ref (xa cx 136)), (1, .int (nI lvl)), (2, .int (nI (31 * lvl))), (3, .int (nI (bitsOf (lfall (lstep L)) i3))), (4, .int (nI i3))] → W p l e { frames := 3, cells := 0, slots := 0, locals := 69 } s m [.ref (xa cx 136), .int (nI lvl)].toArray below meth c H locs 0 0 (MQ below (Ei cx (nI (hF L)) (lvP cx μ lvl (hour L))) [.ref (xa cx 136), .int (nI lvl)].toArray s 0 0 (xA cx)) (F0 m 144 ls []) := by
                intro d144
                induction d144 with
                | zero =>
                  intro i3   H locs ls hid  hW hl
                  have hjj : i3 < Ln (lstep L) ∨ Ln L ≤ i3 := by show i3 < Ln L ∨ _; omega
                  refine lv_iload hx hb dX5_hourOn_144 (lv_at hl 4 rfl) ?_
                  refine lv_aload_n hx hb dX5_hourOn_146 rfl (lv_at hl 0 rfl) ?_
                  refine nv_get F hW (by omega) k136 rfl iX5 0 (by decide) tw_629 rfl dX5_hourOn_147 ?_
                  refine nv_cge (tgt := 248) F (by omega) (by omega) dX5_hourOn_150 (by decide) (fun c_3 => ?_) (fun c_3 => ?_)
                  · skip
                    refine lv_iconst (v := nI 0) hx hb dX5_hourOn_248 (by decide) ?_
                    refine lv_istore (lv' := [(4, .int (nI 0)), (0, .ref (xa cx 136)), (1, .int (nI lvl)), (2, .int (nI (31 * lvl))), (3, .int (nI (bitsOf (lfall (lstep L)) i3)))]) hx hb dX5_hourOn_249 hl (by decide) rfl (fun ls hl => ?_)
                    have hFe : bitsOf (lfall (lstep L)) i3 = hF L := by rw [show i3 = Ln L by omega]; rfl
                    rw [hFe] at hl
                    have LOOP251 : ∀ (d251 i4 : Nat) (r a : Nat → Int32) (μ3 : ME) (H : Heap) (locs : List Loc) (ls : Array Slot), i4 + d251 = Ln L → (μ3 138 = .inl (xT cx 0, 62, .inl r)) → (μ3 141 = .inl (xT cx 0, 6, .inl g)) → (μ3 142 = .inl (xT cx 0, 6, .inl a)) → (∀ z, ¬ z = 138 → ¬ z = 141 → ¬ z = 142 → μ3 z = μ z) → (∀ z, (z < 31 * lvl ∨ 31 * lvl + 31 ≤ z) → r z = fn z) → (lv r (31 * lvl) (fhL L i4)) → St cx s μ3 H locs → lv_has ls 7 [(0, .ref (xa cx 136)), (1, .int (nI lvl)), (2, .int (nI (31 * lvl))), (3, .int (nI (hF L))), (4, .int (nI i4))] → W p l e { frames := 3, cells := 0, slots := 0, locals := 69 } s m [.ref (xa cx 136), .int (nI lvl)].toArray below meth c H locs 0 0 (MQ below (Ei cx (nI (hF L)) (lvP cx μ lvl (hour L))) [.ref (xa cx 136), .int (nI lvl)].toArray s 0 0 (xA cx)) (F0 m 251 ls []) := by
                      intro d251
                      induction d251 with
                      | zero =>
                        intro i4 r a μ3 H locs ls hid hr138 hr141 hr142 hro hrf hlr hW hl
                        have k136 := (hro 136 (by omega) (by omega) (by omega)).trans g136
                        have k137 := (hro 137 (by omega) (by omega) (by omega)).trans g137
                        have hF6 := hF_lt hn6
                        refine lv_iload hx hb dX5_hourOn_251 (lv_at hl 4 rfl) ?_
                        refine lv_aload_n hx hb dX5_hourOn_253 rfl (lv_at hl 0 rfl) ?_
                        refine nv_get F hW (by omega) k136 rfl iX5 0 (by decide) tw_629 rfl dX5_hourOn_254 ?_
                        refine nv_cge (tgt := 346) F (by omega) (by omega) dX5_hourOn_257 (by decide) (fun c_4 => ?_) (fun c_4 => ?_)
                        · skip
                          refine lv_aload_n hx hb dX5_hourOn_346 rfl (lv_at hl 0 rfl) ?_
                          refine nv_get F hW (by omega) k136 rfl iX5 2 (by decide) tw_631 rfl dX5_hourOn_347 ?_
                          refine lv_iload_n hx hb dX5_hourOn_350 rfl (lv_at hl 2 rfl) ?_
                          refine lv_bipush (v := nI 30) hx hb dX5_hourOn_351 (by decide) ?_
                          refine nv_add F dX5_hourOn_353 ?_
                          refine lv_dup2_11 hx hb dX5_hourOn_354 rfl rfl ?_
                          refine nv_ialdN (x := ((nI (Lh L)))) F hW (by omega) hr138 (by omega) (by decide) hlr.2 dX5_hourOn_355 ?_
                          refine lv_iconst (v := nI 1) hx hb dX5_hourOn_356 (by decide) ?_
                          refine nv_add F dX5_hourOn_357 ?_
                          refine nv_iastN F hW (by omega) hr138 (by omega) (by decide) dX5_hourOn_358 (fun H locs hW => ?_)
                          obtain ⟨μ5, eμ5⟩ : ∃ zz9 : ME, zz9 = va_up μ3 138 (.inl (xT cx 0, 62, .inl (upd r ((31 * lvl) + 30) ((nI ((Lh L) + 1)))))) := ⟨_, rfl⟩
                          have hW : St cx s μ5 H locs := by rw [eμ5]; exact hW
                          have h136_5 := (congrFun eμ5 136).trans ((va_up_ne _ _ (by omega)).trans k136)
                          have h137_5 := (congrFun eμ5 137).trans ((va_up_ne _ _ (by omega)).trans k137)
                          have h138_5 : μ5 138 = .inl (xT cx 0, 62, .inl (upd r ((31 * lvl) + 30) ((nI ((Lh L) + 1))))) := by rw [eμ5, va_up_self]
                          have h141_5 := (congrFun eμ5 141).trans ((va_up_ne _ _ (by omega)).trans hr141)
                          have h142_5 := (congrFun eμ5 142).trans ((va_up_ne _ _ (by omega)).trans hr142)
                          refine lv_iload_n hx hb dX5_hourOn_359 rfl (lv_at hl 3 rfl) ?_
                          exact rt_ie F hr hlk hW rfl ⟨fn, _, g, a, g138, h138_5, h141_5, h142_5, (fun z h1 h2 h3 => by rw [eμ5, va_up_ne _ _ h1]; exact hro z h1 h2 h3), (fun z hz => by rw [upd_ne (by omega)]; exact hrf z hz), lv_fhn (by rw [show Ln L = i4 by omega]; exact hlr) hn6⟩ dX5_hourOn_360
                        · skip
                          exact absurd c_4 (by omega)
                      | succ d251 ih251 =>
                        intro i4 r a μ3 H locs ls hid hr138 hr141 hr142 hro hrf hlr hW hl
                        have k136 := (hro 136 (by omega) (by omega) (by omega)).trans g136
                        have k137 := (hro 137 (by omega) (by omega) (by omega)).trans g137
                        have hF6 := hF_lt hn6
                        refine lv_iload hx hb dX5_hourOn_251 (lv_at hl 4 rfl) ?_
                        refine lv_aload_n hx hb dX5_hourOn_253 rfl (lv_at hl 0 rfl) ?_
                        refine nv_get F hW (by omega) k136 rfl iX5 0 (by decide) tw_629 rfl dX5_hourOn_254 ?_
                        refine nv_cge (tgt := 346) F (by omega) (by omega) dX5_hourOn_257 (by decide) (fun c_6 => ?_) (fun c_6 => ?_)
                        · skip
                          exact absurd c_6 (by omega)
                        · skip
                          refine lv_aload_n hx hb dX5_hourOn_260 rfl (lv_at hl 0 rfl) ?_
                          refine nv_get F hW (by omega) k136 rfl iX5 8 (by decide) tw_637 rfl dX5_hourOn_261 ?_
                          refine lv_iload hx hb dX5_hourOn_264 (lv_at hl 4 rfl) ?_
                          refine lv_iload_n hx hb dX5_hourOn_266 rfl (lv_at hl 3 rfl) ?_
                          refine lv_iload hx hb dX5_hourOn_267 (lv_at hl 4 rfl) ?_
                          refine cl_ip (cl_runS (rest := [.int (nI i4), .ref (xa cx 142)]) F hW e_X5_102 (m_has hI l (hF L) i4 (by omega) (by omega)) ⟨Nat.le_of_ble_eq_true rfl, Nat.le_of_ble_eq_true rfl⟩ rfl rfl hl (Nat.le_of_ble_eq_true rfl) dX5_hourOn_269 ⟨Nat.zero_le _, Nat.zero_le _⟩) hW (fun H locs hW => ?_)
                          refine nv_beq (tgt := 279) F dX5_hourOn_272 (by decide) (fun c_7 => ?_) (fun c_7 => ?_)
                          · skip
                            refine lv_iconst (v := nI 0) hx hb dX5_hourOn_279 (by decide) ?_
                            refine nv_iastN F hW (by omega) hr142 (by omega) (by decide) dX5_hourOn_280 (fun H locs hW => ?_)
                            obtain ⟨μ8, eμ8⟩ : ∃ zz9 : ME, zz9 = va_up μ3 142 (.inl (xT cx 0, 6, .inl (upd a i4 ((nI 0))))) := ⟨_, rfl⟩
                            have hW : St cx s μ8 H locs := by rw [eμ8]; exact hW
                            have h136_8 := (congrFun eμ8 136).trans ((va_up_ne _ _ (by omega)).trans k136)
                            have h137_8 := (congrFun eμ8 137).trans ((va_up_ne _ _ (by omega)).trans k137)
                            have h138_8 := (congrFun eμ8 138).trans ((va_up_ne _ _ (by omega)).trans hr138)
                            have h141_8 := (congrFun eμ8 141).trans ((va_up_ne _ _ (by omega)).trans hr141)
                            have h142_8 : μ8 142 = .inl (xT cx 0, 6, .inl (upd a i4 ((nI 0)))) := by rw [eμ8, va_up_self]
                            refine lv_aload_n hx hb dX5_hourOn_281 rfl (lv_at hl 0 rfl) ?_
                            refine nv_get F hW (by omega) h136_8 rfl iX5 2 (by decide) tw_631 rfl dX5_hourOn_282 ?_
                            refine lv_iload_n hx hb dX5_hourOn_285 rfl (lv_at hl 2 rfl) ?_
                            refine lv_bipush (v := nI 18) hx hb dX5_hourOn_286 (by decide) ?_
                            refine nv_add F dX5_hourOn_288 ?_
                            refine lv_iload hx hb dX5_hourOn_289 (lv_at hl 4 rfl) ?_
                            refine nv_add F dX5_hourOn_291 ?_
                            refine lv_dup2_11 hx hb dX5_hourOn_292 rfl rfl ?_
                            refine nv_ialdN (x := ((nI (if lst L i4 then 1 else 0)))) F hW (by omega) h138_8 (by omega) (by decide) (by have q9 := (hlr.1 i4 (by show i4 < Ln L; omega)).2.2.2.1; rw [lst_fh (by omega), if_neg (show ¬ i4 < i4 by omega)] at q9; exact q9) dX5_hourOn_293 ?_
                            refine lv_aload_n hx hb dX5_hourOn_294 rfl (lv_at hl 0 rfl) ?_
                            refine nv_get F hW (by omega) h136_8 rfl iX5 8 (by decide) tw_637 rfl dX5_hourOn_295 ?_
                            refine lv_iload hx hb dX5_hourOn_298 (lv_at hl 4 rfl) ?_
                            refine nv_ialdN (x := ((nI (if (hF L).testBit i4 then 1 else 0)))) F hW (by omega) h142_8 (by omega) (by decide) (by rw [upd_eq rfl, ‹(hF L).testBit i4 = _›]; rfl) dX5_hourOn_300 ?_
                            refine nv_sub F (by have q9 := hF_sub (L := L) (i := i4); cases hb9 : (hF L).testBit i4 with | false => simp | true => rw [q9 hb9]; simp) dX5_hourOn_301 ?_
                            refine nv_iastN F hW (by omega) h138_8 (by omega) (by decide) dX5_hourOn_302 (fun H locs hW => ?_)
                            obtain ⟨μ9, eμ9⟩ : ∃ zz9 : ME, zz9 = va_up μ8 138 (.inl (xT cx 0, 62, .inl (upd r (((31 * lvl) + 18) + i4) ((nI ((if lst L i4 then 1 else 0) - (if (hF L).testBit i4 then 1 else 0))))))) := ⟨_, rfl⟩
                            have hW : St cx s μ9 H locs := by rw [eμ9]; exact hW
                            have h136_9 := (congrFun eμ9 136).trans ((va_up_ne _ _ (by omega)).trans h136_8)
                            have h137_9 := (congrFun eμ9 137).trans ((va_up_ne _ _ (by omega)).trans h137_8)
                            have h138_9 : μ9 138 = .inl (xT cx 0, 62, .inl (upd r (((31 * lvl) + 18) + i4) ((nI ((if lst L i4 then 1 else 0) - (if (hF L).testBit i4 then 1 else 0)))))) := by rw [eμ9, va_up_self]
                            have h141_9 := (congrFun eμ9 141).trans ((va_up_ne _ _ (by omega)).trans h141_8)
                            have h142_9 := (congrFun eμ9 142).trans ((va_up_ne _ _ (by omega)).trans h142_8)
                            refine lv_aload_n hx hb dX5_hourOn_303 rfl (lv_at hl 0 rfl) ?_
                            refine nv_get F hW (by omega) h136_9 rfl iX5 2 (by decide) tw_631 rfl dX5_hourOn_304 ?_
                            refine lv_iload_n hx hb dX5_hourOn_307 rfl (lv_at hl 2 rfl) ?_
                            refine lv_bipush (v := nI 24) hx hb dX5_hourOn_308 (by decide) ?_
                            refine nv_add F dX5_hourOn_310 ?_
                            refine lv_iload hx hb dX5_hourOn_311 (lv_at hl 4 rfl) ?_
                            refine nv_add F dX5_hourOn_313 ?_
                            refine lv_iload_n hx hb dX5_hourOn_314 rfl (lv_at hl 3 rfl) ?_
                            refine lv_iload hx hb dX5_hourOn_315 (lv_at hl 4 rfl) ?_
                            refine cl_ip (cl_runS (rest := [.int (nI (((31 * lvl) + 24) + i4)), .ref (xa cx 138)]) F hW e_X5_102 (m_has hI l (hF L) i4 (by omega) (by omega)) ⟨Nat.le_of_ble_eq_true rfl, Nat.le_of_ble_eq_true rfl⟩ rfl rfl hl (Nat.le_of_ble_eq_true rfl) dX5_hourOn_317 ⟨Nat.zero_le _, Nat.zero_le _⟩) hW (fun H locs hW => ?_)
                            refine nv_beq (tgt := 327) F dX5_hourOn_320 (by decide) (fun c_10 => ?_) (fun c_10 => ?_)
                            · skip
                              refine lv_aload_n hx hb dX5_hourOn_327 rfl (lv_at hl 0 rfl) ?_
                              refine nv_get F hW (by omega) h136_9 rfl iX5 2 (by decide) tw_631 rfl dX5_hourOn_328 ?_
                              refine lv_iload_n hx hb dX5_hourOn_331 rfl (lv_at hl 2 rfl) ?_
                              refine lv_bipush (v := nI 24) hx hb dX5_hourOn_332 (by decide) ?_
                              refine nv_add F dX5_hourOn_334 ?_
                              refine lv_iload hx hb dX5_hourOn_335 (lv_at hl 4 rfl) ?_
                              refine nv_add F dX5_hourOn_337 ?_
                              refine nv_ialdN (x := ((nI (Ll (lstep L) i4)))) F hW (by omega) h138_9 (by omega) (by decide) (by rw [upd_ne (by omega)]; have q9 := (hlr.1 i4 (by show i4 < Ln L; omega)).2.2.2.2; exact q9.trans (by show nI (if i4 < i4 then _ else _) = _; rw [if_neg (by omega)])) dX5_hourOn_338 ?_
                              have hst9 : (if lst (hour L) i4 then 1 else 0) = (if lst L i4 then 1 else 0) - (if (hF L).testBit i4 then 1 else 0) := hour_st
                              have hld9 : Ll (hour L) i4 = Ll (lstep L) i4 := by show (if (hF L).testBit i4 = true then 0 else Ll (lstep L) i4) = _; rw [‹(hF L).testBit i4 = _›]; rfl
                              refine nv_iastN F hW (by omega) h138_9 (by omega) (by decide) dX5_hourOn_339 (fun H locs hW => ?_)
                              obtain ⟨μ11, eμ11⟩ : ∃ zz9 : ME, zz9 = va_up μ9 138 (.inl (xT cx 0, 62, .inl (upd (upd r (((31 * lvl) + 18) + i4) ((nI ((if lst L i4 then 1 else 0) - (if (hF L).testBit i4 then 1 else 0))))) (((31 * lvl) + 24) + i4) ((nI (Ll (lstep L) i4)))))) := ⟨_, rfl⟩
                              have hW : St cx s μ11 H locs := by rw [eμ11]; exact hW
                              have h136_11 := (congrFun eμ11 136).trans ((va_up_ne _ _ (by omega)).trans h136_9)
                              have h137_11 := (congrFun eμ11 137).trans ((va_up_ne _ _ (by omega)).trans h137_9)
                              have h138_11 : μ11 138 = .inl (xT cx 0, 62, .inl (upd (upd r (((31 * lvl) + 18) + i4) ((nI ((if lst L i4 then 1 else 0) - (if (hF L).testBit i4 then 1 else 0))))) (((31 * lvl) + 24) + i4) ((nI (Ll (lstep L) i4))))) := by rw [eμ11, va_up_self]
                              have h141_11 := (congrFun eμ11 141).trans ((va_up_ne _ _ (by omega)).trans h141_9)
                              have h142_11 := (congrFun eμ11 142).trans ((va_up_ne _ _ (by omega)).trans h142_9)
                              refine lv_iinc (v := ((nI (i4 + 1)))) (lv' := [(4, .int (nI (i4 + 1))), (0, .ref (xa cx 136)), (1, .int (nI lvl)), (2, .int (nI (31 * lvl))), (3, .int (nI (hF L)))]) hx hb dX5_hourOn_340 hl (k := 4) rfl (nI_add _ _) (by decide) rfl (fun ls hl => ?_)
                              refine lv_goto (tgt := 251) hx hb dX5_hourOn_343 (by decide) ?_
                              have hm7 : μ11 138 = _ := h138_11
                              have hm8 : μ11 142 = _ := h142_11
                              have hm9 : μ11 141 = _ := h141_11
                              exact ih251 (i4 + 1) _ _ μ11 _ _ _ (by omega) hm7 hm9 hm8 (fun z h1 h2 h3 => by rw [eμ11, va_up_ne _ _ h1, eμ9, va_up_ne _ _ h1, eμ8, va_up_ne _ _ h3]; exact hro z h1 h2 h3) (fun z hz => by rw [upd_ne (by omega), upd_ne (by omega)]; exact hrf z hz) (by have q9 := lv_fh hlr hn6 (show i4 < Ln L by omega); rw [hst9, hld9] at q9; exact q9) hW (lv_sub hl [1, 2, 3, 4, 0] rfl)
                            · skip
                              refine lv_iconst (v := nI 0) hx hb dX5_hourOn_323 (by decide) ?_
                              refine lv_goto (tgt := 339) hx hb dX5_hourOn_324 (by decide) ?_
                              have hst9 : (if lst (hour L) i4 then 1 else 0) = (if lst L i4 then 1 else 0) - (if (hF L).testBit i4 then 1 else 0) := hour_st
                              have hld9 : Ll (hour L) i4 = 0 := by show (if (hF L).testBit i4 = true then 0 else Ll (lstep L) i4) = _; rw [‹(hF L).testBit i4 = _›]; rfl
                              refine nv_iastN F hW (by omega) h138_9 (by omega) (by decide) dX5_hourOn_339 (fun H locs hW => ?_)
                              obtain ⟨μ12, eμ12⟩ : ∃ zz9 : ME, zz9 = va_up μ9 138 (.inl (xT cx 0, 62, .inl (upd (upd r (((31 * lvl) + 18) + i4) ((nI ((if lst L i4 then 1 else 0) - (if (hF L).testBit i4 then 1 else 0))))) (((31 * lvl) + 24) + i4) ((nI 0))))) := ⟨_, rfl⟩
                              have hW : St cx s μ12 H locs := by rw [eμ12]; exact hW
                              have h136_12 := (congrFun eμ12 136).trans ((va_up_ne _ _ (by omega)).trans h136_9)
                              have h137_12 := (congrFun eμ12 137).trans ((va_up_ne _ _ (by omega)).trans h137_9)
                              have h138_12 : μ12 138 = .inl (xT cx 0, 62, .inl (upd (upd r (((31 * lvl) + 18) + i4) ((nI ((if lst L i4 then 1 else 0) - (if (hF L).testBit i4 then 1 else 0))))) (((31 * lvl) + 24) + i4) ((nI 0)))) := by rw [eμ12, va_up_self]
                              have h141_12 := (congrFun eμ12 141).trans ((va_up_ne _ _ (by omega)).trans h141_9)
                              have h142_12 := (congrFun eμ12 142).trans ((va_up_ne _ _ (by omega)).trans h142_9)
                              refine lv_iinc (v := ((nI (i4 + 1)))) (lv' := [(4, .int (nI (i4 + 1))), (0, .ref (xa cx 136)), (1, .int (nI lvl)), (2, .int (nI (31 * lvl))), (3, .int (nI (hF L)))]) hx hb dX5_hourOn_340 hl (k := 4) rfl (nI_add _ _) (by decide) rfl (fun ls hl => ?_)
                              refine lv_goto (tgt := 251) hx hb dX5_hourOn_343 (by decide) ?_
                              have hm7 : μ12 138 = _ := h138_12
                              have hm8 : μ12 142 = _ := h142_12
                              have hm9 : μ12 141 = _ := h141_12
                              exact ih251 (i4 + 1) _ _ μ12 _ _ _ (by omega) hm7 hm9 hm8 (fun z h1 h2 h3 => by rw [eμ12, va_up_ne _ _ h1, eμ9, va_up_ne _ _ h1, eμ8, va_up_ne _ _ h3]; exact hro z h1 h2 h3) (fun z hz => by rw [upd_ne (by omega), upd_ne (by omega)]; exact hrf z hz) (by have q9 := lv_fh hlr hn6 (show i4 < Ln L by omega); rw [hst9, hld9] at q9; exact q9) hW (lv_sub hl [1, 2, 3, 4, 0] rfl)
                          · skip
                            refine lv_iconst (v := nI 1) hx hb dX5_hourOn_275 (by decide) ?_
                            refine lv_goto (tgt := 280) hx hb dX5_hourOn_276 (by decide) ?_
                            refine nv_iastN F hW (by omega) hr142 (by omega) (by decide) dX5_hourOn_280 (fun H locs hW => ?_)
                            obtain ⟨μ13, eμ13⟩ : ∃ zz9 : ME, zz9 = va_up μ3 142 (.inl (xT cx 0, 6, .inl (upd a i4 ((nI 1))))) := ⟨_, rfl⟩
                            have hW : St cx s μ13 H locs := by rw [eμ13]; exact hW
                            have h136_13 := (congrFun eμ13 136).trans ((va_up_ne _ _ (by omega)).trans k136)
                            have h137_13 := (congrFun eμ13 137).trans ((va_up_ne _ _ (by omega)).trans k137)
                            have h138_13 := (congrFun eμ13 138).trans ((va_up_ne _ _ (by omega)).trans hr138)
                            have h141_13 := (congrFun eμ13 141).trans ((va_up_ne _ _ (by omega)).trans hr141)
                            have h142_13 : μ13 142 = .inl (xT cx 0, 6, .inl (upd a i4 ((nI 1)))) := by rw [eμ13, va_up_self]
                            refine lv_aload_n hx hb dX5_hourOn_281 rfl (lv_at hl 0 rfl) ?_
                            refine nv_get F hW (by omega) h136_13 rfl iX5 2 (by decide) tw_631 rfl dX5_hourOn_282 ?_
                            refine lv_iload_n hx hb dX5_hourOn_285 rfl (lv_at hl 2 rfl) ?_
                            refine lv_bipush (v := nI 18) hx hb dX5_hourOn_286 (by decide) ?_
                            refine nv_add F dX5_hourOn_288 ?_
                            refine lv_iload hx hb dX5_hourOn_289 (lv_at hl 4 rfl) ?_
                            refine nv_add F dX5_hourOn_291 ?_
                            refine lv_dup2_11 hx hb dX5_hourOn_292 rfl rfl ?_
                            refine nv_ialdN (x := ((nI (if lst L i4 then 1 else 0)))) F hW (by omega) h138_13 (by omega) (by decide) (by have q9 := (hlr.1 i4 (by show i4 < Ln L; omega)).2.2.2.1; rw [lst_fh (by omega), if_neg (show ¬ i4 < i4 by omega)] at q9; exact q9) dX5_hourOn_293 ?_
                            refine lv_aload_n hx hb dX5_hourOn_294 rfl (lv_at hl 0 rfl) ?_
                            refine nv_get F hW (by omega) h136_13 rfl iX5 8 (by decide) tw_637 rfl dX5_hourOn_295 ?_
                            refine lv_iload hx hb dX5_hourOn_298 (lv_at hl 4 rfl) ?_
                            refine nv_ialdN (x := ((nI (if (hF L).testBit i4 then 1 else 0)))) F hW (by omega) h142_13 (by omega) (by decide) (by rw [upd_eq rfl, ‹(hF L).testBit i4 = _›]; rfl) dX5_hourOn_300 ?_
                            refine nv_sub F (by have q9 := hF_sub (L := L) (i := i4); cases hb9 : (hF L).testBit i4 with | false => simp | true => rw [q9 hb9]; simp) dX5_hourOn_301 ?_
                            refine nv_iastN F hW (by omega) h138_13 (by omega) (by decide) dX5_hourOn_302 (fun H locs hW => ?_)
                            obtain ⟨μ14, eμ14⟩ : ∃ zz9 : ME, zz9 = va_up μ13 138 (.inl (xT cx 0, 62, .inl (upd r (((31 * lvl) + 18) + i4) ((nI ((if lst L i4 then 1 else 0) - (if (hF L).testBit i4 then 1 else 0))))))) := ⟨_, rfl⟩
                            have hW : St cx s μ14 H locs := by rw [eμ14]; exact hW
                            have h136_14 := (congrFun eμ14 136).trans ((va_up_ne _ _ (by omega)).trans h136_13)
                            have h137_14 := (congrFun eμ14 137).trans ((va_up_ne _ _ (by omega)).trans h137_13)
                            have h138_14 : μ14 138 = .inl (xT cx 0, 62, .inl (upd r (((31 * lvl) + 18) + i4) ((nI ((if lst L i4 then 1 else 0) - (if (hF L).testBit i4 then 1 else 0)))))) := by rw [eμ14, va_up_self]
                            have h141_14 := (congrFun eμ14 141).trans ((va_up_ne _ _ (by omega)).trans h141_13)
                            have h142_14 := (congrFun eμ14 142).trans ((va_up_ne _ _ (by omega)).trans h142_13)
                            refine lv_aload_n hx hb dX5_hourOn_303 rfl (lv_at hl 0 rfl) ?_
                            refine nv_get F hW (by omega) h136_14 rfl iX5 2 (by decide) tw_631 rfl dX5_hourOn_304 ?_
                            refine lv_iload_n hx hb dX5_hourOn_307 rfl (lv_at hl 2 rfl) ?_
                            refine lv_bipush (v := nI 24) hx hb dX5_hourOn_308 (by decide) ?_
                            refine nv_add F dX5_hourOn_310 ?_
                            refine lv_iload hx hb dX5_hourOn_311 (lv_at hl 4 rfl) ?_
                            refine nv_add F dX5_hourOn_313 ?_
                            refine lv_iload_n hx hb dX5_hourOn_314 rfl (lv_at hl 3 rfl) ?_
                            refine lv_iload hx hb dX5_hourOn_315 (lv_at hl 4 rfl) ?_
                            refine cl_ip (cl_runS (rest := [.int (nI (((31 * lvl) + 24) + i4)), .ref (xa cx 138)]) F hW e_X5_102 (m_has hI l (hF L) i4 (by omega) (by omega)) ⟨Nat.le_of_ble_eq_true rfl, Nat.le_of_ble_eq_true rfl⟩ rfl rfl hl (Nat.le_of_ble_eq_true rfl) dX5_hourOn_317 ⟨Nat.zero_le _, Nat.zero_le _⟩) hW (fun H locs hW => ?_)
                            refine nv_beq (tgt := 327) F dX5_hourOn_320 (by decide) (fun c_15 => ?_) (fun c_15 => ?_)
                            · skip
                              refine lv_aload_n hx hb dX5_hourOn_327 rfl (lv_at hl 0 rfl) ?_
                              refine nv_get F hW (by omega) h136_14 rfl iX5 2 (by decide) tw_631 rfl dX5_hourOn_328 ?_
                              refine lv_iload_n hx hb dX5_hourOn_331 rfl (lv_at hl 2 rfl) ?_
                              refine lv_bipush (v := nI 24) hx hb dX5_hourOn_332 (by decide) ?_
                              refine nv_add F dX5_hourOn_334 ?_
                              refine lv_iload hx hb dX5_hourOn_335 (lv_at hl 4 rfl) ?_
                              refine nv_add F dX5_hourOn_337 ?_
                              refine nv_ialdN (x := ((nI (Ll (lstep L) i4)))) F hW (by omega) h138_14 (by omega) (by decide) (by rw [upd_ne (by omega)]; have q9 := (hlr.1 i4 (by show i4 < Ln L; omega)).2.2.2.2; exact q9.trans (by show nI (if i4 < i4 then _ else _) = _; rw [if_neg (by omega)])) dX5_hourOn_338 ?_
                              have hst9 : (if lst (hour L) i4 then 1 else 0) = (if lst L i4 then 1 else 0) - (if (hF L).testBit i4 then 1 else 0) := hour_st
                              have hld9 : Ll (hour L) i4 = Ll (lstep L) i4 := by show (if (hF L).testBit i4 = true then 0 else Ll (lstep L) i4) = _; rw [‹(hF L).testBit i4 = _›]; rfl
                              refine nv_iastN F hW (by omega) h138_14 (by omega) (by decide) dX5_hourOn_339 (fun H locs hW => ?_)
                              obtain ⟨μ16, eμ16⟩ : ∃ zz9 : ME, zz9 = va_up μ14 138 (.inl (xT cx 0, 62, .inl (upd (upd r (((31 * lvl) + 18) + i4) ((nI ((if lst L i4 then 1 else 0) - (if (hF L).testBit i4 then 1 else 0))))) (((31 * lvl) + 24) + i4) ((nI (Ll (lstep L) i4)))))) := ⟨_, rfl⟩
                              have hW : St cx s μ16 H locs := by rw [eμ16]; exact hW
                              have h136_16 := (congrFun eμ16 136).trans ((va_up_ne _ _ (by omega)).trans h136_14)
                              have h137_16 := (congrFun eμ16 137).trans ((va_up_ne _ _ (by omega)).trans h137_14)
                              have h138_16 : μ16 138 = .inl (xT cx 0, 62, .inl (upd (upd r (((31 * lvl) + 18) + i4) ((nI ((if lst L i4 then 1 else 0) - (if (hF L).testBit i4 then 1 else 0))))) (((31 * lvl) + 24) + i4) ((nI (Ll (lstep L) i4))))) := by rw [eμ16, va_up_self]
                              have h141_16 := (congrFun eμ16 141).trans ((va_up_ne _ _ (by omega)).trans h141_14)
                              have h142_16 := (congrFun eμ16 142).trans ((va_up_ne _ _ (by omega)).trans h142_14)
                              refine lv_iinc (v := ((nI (i4 + 1)))) (lv' := [(4, .int (nI (i4 + 1))), (0, .ref (xa cx 136)), (1, .int (nI lvl)), (2, .int (nI (31 * lvl))), (3, .int (nI (hF L)))]) hx hb dX5_hourOn_340 hl (k := 4) rfl (nI_add _ _) (by decide) rfl (fun ls hl => ?_)
                              refine lv_goto (tgt := 251) hx hb dX5_hourOn_343 (by decide) ?_
                              have hm7 : μ16 138 = _ := h138_16
                              have hm8 : μ16 142 = _ := h142_16
                              have hm9 : μ16 141 = _ := h141_16
                              exact ih251 (i4 + 1) _ _ μ16 _ _ _ (by omega) hm7 hm9 hm8 (fun z h1 h2 h3 => by rw [eμ16, va_up_ne _ _ h1, eμ14, va_up_ne _ _ h1, eμ13, va_up_ne _ _ h3]; exact hro z h1 h2 h3) (fun z hz => by rw [upd_ne (by omega), upd_ne (by omega)]; exact hrf z hz) (by have q9 := lv_fh hlr hn6 (show i4 < Ln L by omega); rw [hst9, hld9] at q9; exact q9) hW (lv_sub hl [1, 2, 3, 4, 0] rfl)
                            · skip
                              refine lv_iconst (v := nI 0) hx hb dX5_hourOn_323 (by decide) ?_
                              refine lv_goto (tgt := 339) hx hb dX5_hourOn_324 (by decide) ?_
                              have hst9 : (if lst (hour L) i4 then 1 else 0) = (if lst L i4 then 1 else 0) - (if (hF L).testBit i4 then 1 else 0) := hour_st
                              have hld9 : Ll (hour L) i4 = 0 := by show (if (hF L).testBit i4 = true then 0 else Ll (lstep L) i4) = _; rw [‹(hF L).testBit i4 = _›]; rfl
                              refine nv_iastN F hW (by omega) h138_14 (by omega) (by decide) dX5_hourOn_339 (fun H locs hW => ?_)
                              obtain ⟨μ17, eμ17⟩ : ∃ zz9 : ME, zz9 = va_up μ14 138 (.inl (xT cx 0, 62, .inl (upd (upd r (((31 * lvl) + 18) + i4) ((nI ((if lst L i4 then 1 else 0) - (if (hF L).testBit i4 then 1 else 0))))) (((31 * lvl) + 24) + i4) ((nI 0))))) := ⟨_, rfl⟩
                              have hW : St cx s μ17 H locs := by rw [eμ17]; exact hW
                              have h136_17 := (congrFun eμ17 136).trans ((va_up_ne _ _ (by omega)).trans h136_14)
                              have h137_17 := (congrFun eμ17 137).trans ((va_up_ne _ _ (by omega)).trans h137_14)
                              have h138_17 : μ17 138 = .inl (xT cx 0, 62, .inl (upd (upd r (((31 * lvl) + 18) + i4) ((nI ((if lst L i4 then 1 else 0) - (if (hF L).testBit i4 then 1 else 0))))) (((31 * lvl) + 24) + i4) ((nI 0)))) := by rw [eμ17, va_up_self]
                              have h141_17 := (congrFun eμ17 141).trans ((va_up_ne _ _ (by omega)).trans h141_14)
                              have h142_17 := (congrFun eμ17 142).trans ((va_up_ne _ _ (by omega)).trans h142_14)
                              refine lv_iinc (v := ((nI (i4 + 1)))) (lv' := [(4, .int (nI (i4 + 1))), (0, .ref (xa cx 136)), (1, .int (nI lvl)), (2, .int (nI (31 * lvl))), (3, .int (nI (hF L)))]) hx hb dX5_hourOn_340 hl (k := 4) rfl (nI_add _ _) (by decide) rfl (fun ls hl => ?_)
                              refine lv_goto (tgt := 251) hx hb dX5_hourOn_343 (by decide) ?_
                              have hm7 : μ17 138 = _ := h138_17
                              have hm8 : μ17 142 = _ := h142_17
                              have hm9 : μ17 141 = _ := h141_17
                              exact ih251 (i4 + 1) _ _ μ17 _ _ _ (by omega) hm7 hm9 hm8 (fun z h1 h2 h3 => by rw [eμ17, va_up_ne _ _ h1, eμ14, va_up_ne _ _ h1, eμ13, va_up_ne _ _ h3]; exact hro z h1 h2 h3) (fun z hz => by rw [upd_ne (by omega), upd_ne (by omega)]; exact hrf z hz) (by have q9 := lv_fh hlr hn6 (show i4 < Ln L by omega); rw [hst9, hld9] at q9; exact q9) hW (lv_sub hl [1, 2, 3, 4, 0] rfl)
                    exact LOOP251 (Ln L) 0 q fa μ2 _ _ _ (by omega) hq138 hq141 k142 (fun z h1 h2 h3 => hqo z h1 h2) hqf (lv_fh0 hls) hW (lv_sub hl [1, 2, 3, 4, 0] rfl)
                  · skip
                    exact absurd c_3 (by omega)
                | succ d144 ih144 =>
                  intro i3   H locs ls hid  hW hl
                  have hjj : i3 < Ln (lstep L) ∨ Ln L ≤ i3 := by show i3 < Ln L ∨ _; omega
                  refine lv_iload hx hb dX5_hourOn_144 (lv_at hl 4 rfl) ?_
                  refine lv_aload_n hx hb dX5_hourOn_146 rfl (lv_at hl 0 rfl) ?_
                  refine nv_get F hW (by omega) k136 rfl iX5 0 (by decide) tw_629 rfl dX5_hourOn_147 ?_
                  refine nv_cge (tgt := 248) F (by omega) (by omega) dX5_hourOn_150 (by decide) (fun c_18 => ?_) (fun c_18 => ?_)
                  · skip
                    exact absurd c_18 (by omega)
                  · skip
                    refine lv_aload_n hx hb dX5_hourOn_153 rfl (lv_at hl 0 rfl) ?_
                    refine lv_iload_n hx hb dX5_hourOn_154 rfl (lv_at hl 1 rfl) ?_
                    refine lv_iconst (v := nI 0) hx hb dX5_hourOn_155 (by decide) ?_
                    refine lv_iload hx hb dX5_hourOn_156 (lv_at hl 4 rfl) ?_
                    refine cl_ip (cl_run (rest := []) F hW e_X5_80 (m_at0 hI l hN hV3 hk3 hlv (by omega) i3 (by show i3 < Ln L; omega)) ⟨Nat.le_of_ble_eq_true rfl, Nat.le_of_ble_eq_true rfl⟩ (by omega) k136 rfl rfl rfl hl (Nat.le_of_ble_eq_true rfl) dX5_hourOn_158 ⟨Nat.zero_le _, Nat.zero_le _⟩) hW (fun H locs hW => ?_)
                    refine lv_iconst (v := nI 2) hx hb dX5_hourOn_161 (by decide) ?_
                    refine nv_ceq (tgt := 179) F (by have := (hk4 i3 (by omega)).1; show Lk L i3 < _; omega) (by omega) dX5_hourOn_162 (by decide) (fun c_19 => ?_) (fun c_19 => ?_)
                    · skip
                      have hlo : loose (lstep L) i3 = false := by unfold loose; first | (rw [‹(decide (Ld (lstep L) i3 = 2) || lsst (lstep L) i3) = true›]; simp; done) | (rw [decide_eq_false (fun z => z (by assumption))]; rfl)
                      refine lv_iconst (v := nI 0) hx hb dX5_hourOn_179 (by decide) ?_
                      refine lv_istore (lv' := [(5, .int (nI 0)), (0, .ref (xa cx 136)), (1, .int (nI lvl)), (2, .int (nI (31 * lvl))), (3, .int (nI (bitsOf (lfall (lstep L)) i3))), (4, .int (nI i3))]) hx hb dX5_hourOn_180 hl (by decide) rfl (fun ls hl => ?_)
                      refine lv_aload_n hx hb dX5_hourOn_182 rfl (lv_at hl 1 rfl) ?_
                      refine lv_iload_n hx hb dX5_hourOn_183 rfl (lv_at hl 2 rfl) ?_
                      refine lv_iload hx hb dX5_hourOn_184 (lv_at hl 5 rfl) ?_
                      refine cl_ip (cl_run (rest := []) F hW e_X5_99 (m_groundOf hI l hN hV3 hk3 hlv (by omega) i3 (by show i3 < Ln L; omega)) ⟨Nat.le_of_ble_eq_true rfl, Nat.le_of_ble_eq_true rfl⟩ (by omega) k136 rfl rfl rfl hl (Nat.le_of_ble_eq_true rfl) dX5_hourOn_186 ⟨Nat.zero_le _, Nat.zero_le _⟩) hW (fun H locs hW => ?_)
                      refine lv_iconst (v := nI 3) hx hb dX5_hourOn_189 (by decide) ?_
                      refine lv_aload_n hx hb dX5_hourOn_190 rfl (lv_at hl 1 rfl) ?_
                      refine nv_get F hW (by omega) k136 rfl iX5 1 (by decide) tw_630 rfl dX5_hourOn_191 ?_
                      refine lv_iload hx hb dX5_hourOn_194 (lv_at hl 5 rfl) ?_
                      refine nv_ialdN (x := ((nI (Lg L i3)))) F hW (by omega) k137 (by omega) (by decide) (hg i3 (by omega)) dX5_hourOn_196 ?_
                      refine nv_mul F dX5_hourOn_197 ?_
                      refine nv_cle (tgt := 205) F (by have := lok_l hk3 i3; have := lgr_le (lstep L) i3; omega) (by have := (hk4 i3 (by omega)).2.2.1; omega) dX5_hourOn_198 (by decide) (fun c_20 => ?_) (fun c_20 => ?_)
                      · skip
                        have hwk : ¬ 3 * Lg (lstep L) i3 < lgr (lstep L) i3 := by show ¬ 3 * Lg L i3 < _; omega
                        refine lv_iconst (v := nI 0) hx hb dX5_hourOn_205 (by decide) ?_
                        refine lv_istore (lv' := [(6, .int (nI 0)), (5, .int (nI 0)), (0, .ref (xa cx 136)), (1, .int (nI lvl)), (2, .int (nI (31 * lvl))), (3, .int (nI (bitsOf (lfall (lstep L)) i3))), (4, .int (nI i3))]) hx hb dX5_hourOn_206 hl (by decide) rfl (fun ls hl => ?_)
                        refine lv_iload_n hx hb dX5_hourOn_208 rfl (lv_at hl 5 rfl) ?_
                        refine lv_aload_n hx hb dX5_hourOn_209 rfl (lv_at hl 2 rfl) ?_
                        refine lv_iload_n hx hb dX5_hourOn_210 rfl (lv_at hl 3 rfl) ?_
                        refine lv_bipush (v := nI 18) hx hb dX5_hourOn_211 (by decide) ?_
                        refine lv_iload hx hb dX5_hourOn_213 (lv_at hl 6 rfl) ?_
                        refine cl_ip (cl_run (rest := [.int (nI (bitsOf (lfall (lstep L)) i3))]) F hW e_X5_80 (m_at18 hI l hN hV3 hk3 hlv (by omega) i3 (by show i3 < Ln L; omega)) ⟨Nat.le_of_ble_eq_true rfl, Nat.le_of_ble_eq_true rfl⟩ (by omega) k136 rfl rfl rfl hl (Nat.le_of_ble_eq_true rfl) dX5_hourOn_215 ⟨Nat.zero_le _, Nat.zero_le _⟩) hW (fun H locs hW => ?_)
                        refine lv_iconst (v := nI 1) hx hb dX5_hourOn_218 (by decide) ?_
                        refine nv_b1ne (tgt := 239) F dX5_hourOn_219 (by decide) (fun c_21 => ?_) (fun c_21 => ?_)
                        · skip
                          refine lv_iconst (v := nI 0) hx hb dX5_hourOn_239 (by decide) ?_
                          refine nv_or F dX5_hourOn_240 ?_
                          refine nv_top (y := ((nI (bitsOf (lfall (lstep L)) i3)))) (by rw [Nat.or_zero]) ?_
                          refine lv_istore_n (lv' := [(3, .int (nI (bitsOf (lfall (lstep L)) i3))), (6, .int (nI 0)), (5, .int (nI 0)), (0, .ref (xa cx 136)), (1, .int (nI lvl)), (2, .int (nI (31 * lvl))), (4, .int (nI i3))]) hx hb dX5_hourOn_241 rfl hl (by decide) rfl (fun ls hl => ?_)
                          refine lv_iinc (v := ((nI (i3 + 1)))) (lv' := [(4, .int (nI (i3 + 1))), (3, .int (nI (bitsOf (lfall (lstep L)) i3))), (6, .int (nI 0)), (5, .int (nI 0)), (0, .ref (xa cx 136)), (1, .int (nI lvl)), (2, .int (nI (31 * lvl)))]) hx hb dX5_hourOn_242 hl (k := 6) rfl (nI_add _ _) (by decide) rfl (fun ls hl => ?_)
                          refine lv_goto (tgt := 144) hx hb dX5_hourOn_245 (by decide) ?_
                          have hfl : lfall (lstep L) i3 = false := by rw [lfall_def]; first | (rw [show lst (lstep L) i3 = false from by assumption]; rfl) | (rw [hlo, decide_eq_false hwk]; simp)
                          exact ih144 (i3 + 1) _ _ _ (by omega) hW (by rw [show bitsOf (lfall (lstep L)) (i3 + 1) = bitsOf (lfall (lstep L)) i3 by show bitsOf (lfall (lstep L)) i3 ||| (if lfall (lstep L) i3 = true then 2 ^ i3 else 0) = _; rw [hfl, if_neg (by decide), Nat.or_zero]]; exact lv_sub hl [4, 5, 6, 1, 0] rfl)
                        · skip
                          refine lv_iload hx hb dX5_hourOn_222 (lv_at hl 1 rfl) ?_
                          refine nv_zne (tgt := 232) F (by decide) dX5_hourOn_224 (by decide) (fun c_22 => ?_) (fun c_22 => ?_)
                          · skip
                            exact absurd c_22 (by decide)
                          · skip
                            refine lv_iload hx hb dX5_hourOn_227 (lv_at hl 0 rfl) ?_
                            refine nv_zeq (tgt := 239) F (by decide) dX5_hourOn_229 (by decide) (fun c_23 => ?_) (fun c_23 => ?_)
                            · skip
                              refine lv_iconst (v := nI 0) hx hb dX5_hourOn_239 (by decide) ?_
                              refine nv_or F dX5_hourOn_240 ?_
                              refine nv_top (y := ((nI (bitsOf (lfall (lstep L)) i3)))) (by rw [Nat.or_zero]) ?_
                              refine lv_istore_n (lv' := [(3, .int (nI (bitsOf (lfall (lstep L)) i3))), (6, .int (nI 0)), (5, .int (nI 0)), (0, .ref (xa cx 136)), (1, .int (nI lvl)), (2, .int (nI (31 * lvl))), (4, .int (nI i3))]) hx hb dX5_hourOn_241 rfl hl (by decide) rfl (fun ls hl => ?_)
                              refine lv_iinc (v := ((nI (i3 + 1)))) (lv' := [(4, .int (nI (i3 + 1))), (3, .int (nI (bitsOf (lfall (lstep L)) i3))), (6, .int (nI 0)), (5, .int (nI 0)), (0, .ref (xa cx 136)), (1, .int (nI lvl)), (2, .int (nI (31 * lvl)))]) hx hb dX5_hourOn_242 hl (k := 6) rfl (nI_add _ _) (by decide) rfl (fun ls hl => ?_)
                              refine lv_goto (tgt := 144) hx hb dX5_hourOn_245 (by decide) ?_
                              have hfl : lfall (lstep L) i3 = false := by rw [lfall_def]; first | (rw [show lst (lstep L) i3 = false from by assumption]; rfl) | (rw [hlo, decide_eq_false hwk]; simp)
                              exact ih144 (i3 + 1) _ _ _ (by omega) hW (by rw [show bitsOf (lfall (lstep L)) (i3 + 1) = bitsOf (lfall (lstep L)) i3 by show bitsOf (lfall (lstep L)) i3 ||| (if lfall (lstep L) i3 = true then 2 ^ i3 else 0) = _; rw [hfl, if_neg (by decide), Nat.or_zero]]; exact lv_sub hl [4, 5, 6, 1, 0] rfl)
                            · skip
                              exact absurd c_23 (by decide)
                      · skip
                        have hwk : 3 * Lg (lstep L) i3 < lgr (lstep L) i3 := by show 3 * Lg L i3 < _; omega
                        refine lv_iconst (v := nI 1) hx hb dX5_hourOn_201 (by decide) ?_
                        refine lv_goto (tgt := 206) hx hb dX5_hourOn_202 (by decide) ?_
                        refine lv_istore (lv' := [(6, .int (nI 1)), (5, .int (nI 0)), (0, .ref (xa cx 136)), (1, .int (nI lvl)), (2, .int (nI (31 * lvl))), (3, .int (nI (bitsOf (lfall (lstep L)) i3))), (4, .int (nI i3))]) hx hb dX5_hourOn_206 hl (by decide) rfl (fun ls hl => ?_)
                        refine lv_iload_n hx hb dX5_hourOn_208 rfl (lv_at hl 5 rfl) ?_
                        refine lv_aload_n hx hb dX5_hourOn_209 rfl (lv_at hl 2 rfl) ?_
                        refine lv_iload_n hx hb dX5_hourOn_210 rfl (lv_at hl 3 rfl) ?_
                        refine lv_bipush (v := nI 18) hx hb dX5_hourOn_211 (by decide) ?_
                        refine lv_iload hx hb dX5_hourOn_213 (lv_at hl 6 rfl) ?_
                        refine cl_ip (cl_run (rest := [.int (nI (bitsOf (lfall (lstep L)) i3))]) F hW e_X5_80 (m_at18 hI l hN hV3 hk3 hlv (by omega) i3 (by show i3 < Ln L; omega)) ⟨Nat.le_of_ble_eq_true rfl, Nat.le_of_ble_eq_true rfl⟩ (by omega) k136 rfl rfl rfl hl (Nat.le_of_ble_eq_true rfl) dX5_hourOn_215 ⟨Nat.zero_le _, Nat.zero_le _⟩) hW (fun H locs hW => ?_)
                        refine lv_iconst (v := nI 1) hx hb dX5_hourOn_218 (by decide) ?_
                        refine nv_b1ne (tgt := 239) F dX5_hourOn_219 (by decide) (fun c_24 => ?_) (fun c_24 => ?_)
                        · skip
                          refine lv_iconst (v := nI 0) hx hb dX5_hourOn_239 (by decide) ?_
                          refine nv_or F dX5_hourOn_240 ?_
                          refine nv_top (y := ((nI (bitsOf (lfall (lstep L)) i3)))) (by rw [Nat.or_zero]) ?_
                          refine lv_istore_n (lv' := [(3, .int (nI (bitsOf (lfall (lstep L)) i3))), (6, .int (nI 1)), (5, .int (nI 0)), (0, .ref (xa cx 136)), (1, .int (nI lvl)), (2, .int (nI (31 * lvl))), (4, .int (nI i3))]) hx hb dX5_hourOn_241 rfl hl (by decide) rfl (fun ls hl => ?_)
                          refine lv_iinc (v := ((nI (i3 + 1)))) (lv' := [(4, .int (nI (i3 + 1))), (3, .int (nI (bitsOf (lfall (lstep L)) i3))), (6, .int (nI 1)), (5, .int (nI 0)), (0, .ref (xa cx 136)), (1, .int (nI lvl)), (2, .int (nI (31 * lvl)))]) hx hb dX5_hourOn_242 hl (k := 6) rfl (nI_add _ _) (by decide) rfl (fun ls hl => ?_)
                          refine lv_goto (tgt := 144) hx hb dX5_hourOn_245 (by decide) ?_
                          have hfl : lfall (lstep L) i3 = false := by rw [lfall_def]; first | (rw [show lst (lstep L) i3 = false from by assumption]; rfl) | (rw [hlo, decide_eq_false hwk]; simp)
                          exact ih144 (i3 + 1) _ _ _ (by omega) hW (by rw [show bitsOf (lfall (lstep L)) (i3 + 1) = bitsOf (lfall (lstep L)) i3 by show bitsOf (lfall (lstep L)) i3 ||| (if lfall (lstep L) i3 = true then 2 ^ i3 else 0) = _; rw [hfl, if_neg (by decide), Nat.or_zero]]; exact lv_sub hl [4, 5, 6, 1, 0] rfl)
                        · skip
                          refine lv_iload hx hb dX5_hourOn_222 (lv_at hl 1 rfl) ?_
                          refine nv_zne (tgt := 232) F (by decide) dX5_hourOn_224 (by decide) (fun c_25 => ?_) (fun c_25 => ?_)
                          · skip
                            exact absurd c_25 (by decide)
                          · skip
                            refine lv_iload hx hb dX5_hourOn_227 (lv_at hl 0 rfl) ?_
                            refine nv_zeq (tgt := 239) F (by decide) dX5_hourOn_229 (by decide) (fun c_26 => ?_) (fun c_26 => ?_)
                            · skip
                              exact absurd c_26 (by decide)
                            · skip
                              refine lv_iconst (v := nI 1) hx hb dX5_hourOn_232 (by decide) ?_
                              refine lv_iload hx hb dX5_hourOn_233 (lv_at hl 6 rfl) ?_
                              refine nv_shl F (by omega) (pow2_lt (by omega)) dX5_hourOn_235 ?_
                              refine nv_top (y := ((nI (2 ^ i3)))) (by rw [Nat.one_mul]) ?_
                              refine lv_goto (tgt := 240) hx hb dX5_hourOn_236 (by decide) ?_
                              refine nv_or F dX5_hourOn_240 ?_
                              refine lv_istore_n (lv' := [(3, .int (nI ((bitsOf (lfall (lstep L)) i3) ||| (2 ^ i3)))), (6, .int (nI 1)), (5, .int (nI 0)), (0, .ref (xa cx 136)), (1, .int (nI lvl)), (2, .int (nI (31 * lvl))), (4, .int (nI i3))]) hx hb dX5_hourOn_241 rfl hl (by decide) rfl (fun ls hl => ?_)
                              refine lv_iinc (v := ((nI (i3 + 1)))) (lv' := [(4, .int (nI (i3 + 1))), (3, .int (nI ((bitsOf (lfall (lstep L)) i3) ||| (2 ^ i3)))), (6, .int (nI 1)), (5, .int (nI 0)), (0, .ref (xa cx 136)), (1, .int (nI lvl)), (2, .int (nI (31 * lvl)))]) hx hb dX5_hourOn_242 hl (k := 6) rfl (nI_add _ _) (by decide) rfl (fun ls hl => ?_)
                              refine lv_goto (tgt := 144) hx hb dX5_hourOn_245 (by decide) ?_
                              have hfl : lfall (lstep L) i3 = true := by rw [lfall_def]; rw [show lst (lstep L) i3 = true from by assumption]; first | (rw [hlo]; rfl) | (rw [decide_eq_true hwk]; simp)
                              exact ih144 (i3 + 1) _ _ _ (by omega) hW (by rw [show bitsOf (lfall (lstep L)) (i3 + 1) = (bitsOf (lfall (lstep L)) i3) ||| (2 ^ i3) by show bitsOf (lfall (lstep L)) i3 ||| (if lfall (lstep L) i3 = true then 2 ^ i3 else 0) = _; rw [hfl]; rfl]; exact lv_sub hl [4, 5, 6, 1, 0] rfl)
                    · skip
                      refine lv_aload_n hx hb dX5_hourOn_165 rfl (lv_at hl 0 rfl) ?_
                      refine lv_iload_n hx hb dX5_hourOn_166 rfl (lv_at hl 1 rfl) ?_
                      refine lv_iload hx hb dX5_hourOn_167 (lv_at hl 4 rfl) ?_
                      refine cl_ip (cl_run (rest := []) F hW e_X5_95 (m_isHeld hI l hN hV3 hk3 hlv (by omega) i3 (by show i3 < Ln L; omega)) ⟨Nat.le_of_ble_eq_true rfl, Nat.le_of_ble_eq_true rfl⟩ (by omega) k136 rfl rfl rfl hl (Nat.le_of_ble_eq_true rfl) dX5_hourOn_169 ⟨Nat.zero_le _, Nat.zero_le _⟩) hW (fun H locs hW => ?_)
                      refine nv_bne (tgt := 179) F dX5_hourOn_172 (by decide) (fun c_27 => ?_) (fun c_27 => ?_)
                      · skip
                        have hlo : loose (lstep L) i3 = false := by unfold loose; first | (rw [‹(decide (Ld (lstep L) i3 = 2) || lsst (lstep L) i3) = true›]; simp; done) | (rw [decide_eq_false (fun z => z (by assumption))]; rfl)
                        refine lv_iconst (v := nI 0) hx hb dX5_hourOn_179 (by decide) ?_
                        refine lv_istore (lv' := [(5, .int (nI 0)), (0, .ref (xa cx 136)), (1, .int (nI lvl)), (2, .int (nI (31 * lvl))), (3, .int (nI (bitsOf (lfall (lstep L)) i3))), (4, .int (nI i3))]) hx hb dX5_hourOn_180 hl (by decide) rfl (fun ls hl => ?_)
                        refine lv_aload_n hx hb dX5_hourOn_182 rfl (lv_at hl 1 rfl) ?_
                        refine lv_iload_n hx hb dX5_hourOn_183 rfl (lv_at hl 2 rfl) ?_
                        refine lv_iload hx hb dX5_hourOn_184 (lv_at hl 5 rfl) ?_
                        refine cl_ip (cl_run (rest := []) F hW e_X5_99 (m_groundOf hI l hN hV3 hk3 hlv (by omega) i3 (by show i3 < Ln L; omega)) ⟨Nat.le_of_ble_eq_true rfl, Nat.le_of_ble_eq_true rfl⟩ (by omega) k136 rfl rfl rfl hl (Nat.le_of_ble_eq_true rfl) dX5_hourOn_186 ⟨Nat.zero_le _, Nat.zero_le _⟩) hW (fun H locs hW => ?_)
                        refine lv_iconst (v := nI 3) hx hb dX5_hourOn_189 (by decide) ?_
                        refine lv_aload_n hx hb dX5_hourOn_190 rfl (lv_at hl 1 rfl) ?_
                        refine nv_get F hW (by omega) k136 rfl iX5 1 (by decide) tw_630 rfl dX5_hourOn_191 ?_
                        refine lv_iload hx hb dX5_hourOn_194 (lv_at hl 5 rfl) ?_
                        refine nv_ialdN (x := ((nI (Lg L i3)))) F hW (by omega) k137 (by omega) (by decide) (hg i3 (by omega)) dX5_hourOn_196 ?_
                        refine nv_mul F dX5_hourOn_197 ?_
                        refine nv_cle (tgt := 205) F (by have := lok_l hk3 i3; have := lgr_le (lstep L) i3; omega) (by have := (hk4 i3 (by omega)).2.2.1; omega) dX5_hourOn_198 (by decide) (fun c_28 => ?_) (fun c_28 => ?_)
                        · skip
                          have hwk : ¬ 3 * Lg (lstep L) i3 < lgr (lstep L) i3 := by show ¬ 3 * Lg L i3 < _; omega
                          refine lv_iconst (v := nI 0) hx hb dX5_hourOn_205 (by decide) ?_
                          refine lv_istore (lv' := [(6, .int (nI 0)), (5, .int (nI 0)), (0, .ref (xa cx 136)), (1, .int (nI lvl)), (2, .int (nI (31 * lvl))), (3, .int (nI (bitsOf (lfall (lstep L)) i3))), (4, .int (nI i3))]) hx hb dX5_hourOn_206 hl (by decide) rfl (fun ls hl => ?_)
                          refine lv_iload_n hx hb dX5_hourOn_208 rfl (lv_at hl 5 rfl) ?_
                          refine lv_aload_n hx hb dX5_hourOn_209 rfl (lv_at hl 2 rfl) ?_
                          refine lv_iload_n hx hb dX5_hourOn_210 rfl (lv_at hl 3 rfl) ?_
                          refine lv_bipush (v := nI 18) hx hb dX5_hourOn_211 (by decide) ?_
                          refine lv_iload hx hb dX5_hourOn_213 (lv_at hl 6 rfl) ?_
                          refine cl_ip (cl_run (rest := [.int (nI (bitsOf (lfall (lstep L)) i3))]) F hW e_X5_80 (m_at18 hI l hN hV3 hk3 hlv (by omega) i3 (by show i3 < Ln L; omega)) ⟨Nat.le_of_ble_eq_true rfl, Nat.le_of_ble_eq_true rfl⟩ (by omega) k136 rfl rfl rfl hl (Nat.le_of_ble_eq_true rfl) dX5_hourOn_215 ⟨Nat.zero_le _, Nat.zero_le _⟩) hW (fun H locs hW => ?_)
                          refine lv_iconst (v := nI 1) hx hb dX5_hourOn_218 (by decide) ?_
                          refine nv_b1ne (tgt := 239) F dX5_hourOn_219 (by decide) (fun c_29 => ?_) (fun c_29 => ?_)
                          · skip
                            refine lv_iconst (v := nI 0) hx hb dX5_hourOn_239 (by decide) ?_
                            refine nv_or F dX5_hourOn_240 ?_
                            refine nv_top (y := ((nI (bitsOf (lfall (lstep L)) i3)))) (by rw [Nat.or_zero]) ?_
                            refine lv_istore_n (lv' := [(3, .int (nI (bitsOf (lfall (lstep L)) i3))), (6, .int (nI 0)), (5, .int (nI 0)), (0, .ref (xa cx 136)), (1, .int (nI lvl)), (2, .int (nI (31 * lvl))), (4, .int (nI i3))]) hx hb dX5_hourOn_241 rfl hl (by decide) rfl (fun ls hl => ?_)
                            refine lv_iinc (v := ((nI (i3 + 1)))) (lv' := [(4, .int (nI (i3 + 1))), (3, .int (nI (bitsOf (lfall (lstep L)) i3))), (6, .int (nI 0)), (5, .int (nI 0)), (0, .ref (xa cx 136)), (1, .int (nI lvl)), (2, .int (nI (31 * lvl)))]) hx hb dX5_hourOn_242 hl (k := 6) rfl (nI_add _ _) (by decide) rfl (fun ls hl => ?_)
                            refine lv_goto (tgt := 144) hx hb dX5_hourOn_245 (by decide) ?_
                            have hfl : lfall (lstep L) i3 = false := by rw [lfall_def]; first | (rw [show lst (lstep L) i3 = false from by assumption]; rfl) | (rw [hlo, decide_eq_false hwk]; simp)
                            exact ih144 (i3 + 1) _ _ _ (by omega) hW (by rw [show bitsOf (lfall (lstep L)) (i3 + 1) = bitsOf (lfall (lstep L)) i3 by show bitsOf (lfall (lstep L)) i3 ||| (if lfall (lstep L) i3 = true then 2 ^ i3 else 0) = _; rw [hfl, if_neg (by decide), Nat.or_zero]]; exact lv_sub hl [4, 5, 6, 1, 0] rfl)
                          · skip
                            refine lv_iload hx hb dX5_hourOn_222 (lv_at hl 1 rfl) ?_
                            refine nv_zne (tgt := 232) F (by decide) dX5_hourOn_224 (by decide) (fun c_30 => ?_) (fun c_30 => ?_)
                            · skip
                              exact absurd c_30 (by decide)
                            · skip
                              refine lv_iload hx hb dX5_hourOn_227 (lv_at hl 0 rfl) ?_
                              refine nv_zeq (tgt := 239) F (by decide) dX5_hourOn_229 (by decide) (fun c_31 => ?_) (fun c_31 => ?_)
                              · skip
                                refine lv_iconst (v := nI 0) hx hb dX5_hourOn_239 (by decide) ?_
                                refine nv_or F dX5_hourOn_240 ?_
                                refine nv_top (y := ((nI (bitsOf (lfall (lstep L)) i3)))) (by rw [Nat.or_zero]) ?_
                                refine lv_istore_n (lv' := [(3, .int (nI (bitsOf (lfall (lstep L)) i3))), (6, .int (nI 0)), (5, .int (nI 0)), (0, .ref (xa cx 136)), (1, .int (nI lvl)), (2, .int (nI (31 * lvl))), (4, .int (nI i3))]) hx hb dX5_hourOn_241 rfl hl (by decide) rfl (fun ls hl => ?_)
                                refine lv_iinc (v := ((nI (i3 + 1)))) (lv' := [(4, .int (nI (i3 + 1))), (3, .int (nI (bitsOf (lfall (lstep L)) i3))), (6, .int (nI 0)), (5, .int (nI 0)), (0, .ref (xa cx 136)), (1, .int (nI lvl)), (2, .int (nI (31 * lvl)))]) hx hb dX5_hourOn_242 hl (k := 6) rfl (nI_add _ _) (by decide) rfl (fun ls hl => ?_)
                                refine lv_goto (tgt := 144) hx hb dX5_hourOn_245 (by decide) ?_
                                have hfl : lfall (lstep L) i3 = false := by rw [lfall_def]; first | (rw [show lst (lstep L) i3 = false from by assumption]; rfl) | (rw [hlo, decide_eq_false hwk]; simp)
                                exact ih144 (i3 + 1) _ _ _ (by omega) hW (by rw [show bitsOf (lfall (lstep L)) (i3 + 1) = bitsOf (lfall (lstep L)) i3 by show bitsOf (lfall (lstep L)) i3 ||| (if lfall (lstep L) i3 = true then 2 ^ i3 else 0) = _; rw [hfl, if_neg (by decide), Nat.or_zero]]; exact lv_sub hl [4, 5, 6, 1, 0] rfl)
                              · skip
                                exact absurd c_31 (by decide)
                        · skip
                          have hwk : 3 * Lg (lstep L) i3 < lgr (lstep L) i3 := by show 3 * Lg L i3 < _; omega
                          refine lv_iconst (v := nI 1) hx hb dX5_hourOn_201 (by decide) ?_
                          refine lv_goto (tgt := 206) hx hb dX5_hourOn_202 (by decide) ?_
                          refine lv_istore (lv' := [(6, .int (nI 1)), (5, .int (nI 0)), (0, .ref (xa cx 136)), (1, .int (nI lvl)), (2, .int (nI (31 * lvl))), (3, .int (nI (bitsOf (lfall (lstep L)) i3))), (4, .int (nI i3))]) hx hb dX5_hourOn_206 hl (by decide) rfl (fun ls hl => ?_)
                          refine lv_iload_n hx hb dX5_hourOn_208 rfl (lv_at hl 5 rfl) ?_
                          refine lv_aload_n hx hb dX5_hourOn_209 rfl (lv_at hl 2 rfl) ?_
                          refine lv_iload_n hx hb dX5_hourOn_210 rfl (lv_at hl 3 rfl) ?_
                          refine lv_bipush (v := nI 18) hx hb dX5_hourOn_211 (by decide) ?_
                          refine lv_iload hx hb dX5_hourOn_213 (lv_at hl 6 rfl) ?_
                          refine cl_ip (cl_run (rest := [.int (nI (bitsOf (lfall (lstep L)) i3))]) F hW e_X5_80 (m_at18 hI l hN hV3 hk3 hlv (by omega) i3 (by show i3 < Ln L; omega)) ⟨Nat.le_of_ble_eq_true rfl, Nat.le_of_ble_eq_true rfl⟩ (by omega) k136 rfl rfl rfl hl (Nat.le_of_ble_eq_true rfl) dX5_hourOn_215 ⟨Nat.zero_le _, Nat.zero_le _⟩) hW (fun H locs hW => ?_)
                          refine lv_iconst (v := nI 1) hx hb dX5_hourOn_218 (by decide) ?_
                          refine nv_b1ne (tgt := 239) F dX5_hourOn_219 (by decide) (fun c_32 => ?_) (fun c_32 => ?_)
                          · skip
                            refine lv_iconst (v := nI 0) hx hb dX5_hourOn_239 (by decide) ?_
                            refine nv_or F dX5_hourOn_240 ?_
                            refine nv_top (y := ((nI (bitsOf (lfall (lstep L)) i3)))) (by rw [Nat.or_zero]) ?_
                            refine lv_istore_n (lv' := [(3, .int (nI (bitsOf (lfall (lstep L)) i3))), (6, .int (nI 1)), (5, .int (nI 0)), (0, .ref (xa cx 136)), (1, .int (nI lvl)), (2, .int (nI (31 * lvl))), (4, .int (nI i3))]) hx hb dX5_hourOn_241 rfl hl (by decide) rfl (fun ls hl => ?_)
                            refine lv_iinc (v := ((nI (i3 + 1)))) (lv' := [(4, .int (nI (i3 + 1))), (3, .int (nI (bitsOf (lfall (lstep L)) i3))), (6, .int (nI 1)), (5, .int (nI 0)), (0, .ref (xa cx 136)), (1, .int (nI lvl)), (2, .int (nI (31 * lvl)))]) hx hb dX5_hourOn_242 hl (k := 6) rfl (nI_add _ _) (by decide) rfl (fun ls hl => ?_)
                            refine lv_goto (tgt := 144) hx hb dX5_hourOn_245 (by decide) ?_
                            have hfl : lfall (lstep L) i3 = false := by rw [lfall_def]; first | (rw [show lst (lstep L) i3 = false from by assumption]; rfl) | (rw [hlo, decide_eq_false hwk]; simp)
                            exact ih144 (i3 + 1) _ _ _ (by omega) hW (by rw [show bitsOf (lfall (lstep L)) (i3 + 1) = bitsOf (lfall (lstep L)) i3 by show bitsOf (lfall (lstep L)) i3 ||| (if lfall (lstep L) i3 = true then 2 ^ i3 else 0) = _; rw [hfl, if_neg (by decide), Nat.or_zero]]; exact lv_sub hl [4, 5, 6, 1, 0] rfl)
                          · skip
                            refine lv_iload hx hb dX5_hourOn_222 (lv_at hl 1 rfl) ?_
                            refine nv_zne (tgt := 232) F (by decide) dX5_hourOn_224 (by decide) (fun c_33 => ?_) (fun c_33 => ?_)
                            · skip
                              exact absurd c_33 (by decide)
                            · skip
                              refine lv_iload hx hb dX5_hourOn_227 (lv_at hl 0 rfl) ?_
                              refine nv_zeq (tgt := 239) F (by decide) dX5_hourOn_229 (by decide) (fun c_34 => ?_) (fun c_34 => ?_)
                              · skip
                                exact absurd c_34 (by decide)
                              · skip
                                refine lv_iconst (v := nI 1) hx hb dX5_hourOn_232 (by decide) ?_
                                refine lv_iload hx hb dX5_hourOn_233 (lv_at hl 6 rfl) ?_
                                refine nv_shl F (by omega) (pow2_lt (by omega)) dX5_hourOn_235 ?_
                                refine nv_top (y := ((nI (2 ^ i3)))) (by rw [Nat.one_mul]) ?_
                                refine lv_goto (tgt := 240) hx hb dX5_hourOn_236 (by decide) ?_
                                refine nv_or F dX5_hourOn_240 ?_
                                refine lv_istore_n (lv' := [(3, .int (nI ((bitsOf (lfall (lstep L)) i3) ||| (2 ^ i3)))), (6, .int (nI 1)), (5, .int (nI 0)), (0, .ref (xa cx 136)), (1, .int (nI lvl)), (2, .int (nI (31 * lvl))), (4, .int (nI i3))]) hx hb dX5_hourOn_241 rfl hl (by decide) rfl (fun ls hl => ?_)
                                refine lv_iinc (v := ((nI (i3 + 1)))) (lv' := [(4, .int (nI (i3 + 1))), (3, .int (nI ((bitsOf (lfall (lstep L)) i3) ||| (2 ^ i3)))), (6, .int (nI 1)), (5, .int (nI 0)), (0, .ref (xa cx 136)), (1, .int (nI lvl)), (2, .int (nI (31 * lvl)))]) hx hb dX5_hourOn_242 hl (k := 6) rfl (nI_add _ _) (by decide) rfl (fun ls hl => ?_)
                                refine lv_goto (tgt := 144) hx hb dX5_hourOn_245 (by decide) ?_
                                have hfl : lfall (lstep L) i3 = true := by rw [lfall_def]; rw [show lst (lstep L) i3 = true from by assumption]; first | (rw [hlo]; rfl) | (rw [decide_eq_true hwk]; simp)
                                exact ih144 (i3 + 1) _ _ _ (by omega) hW (by rw [show bitsOf (lfall (lstep L)) (i3 + 1) = (bitsOf (lfall (lstep L)) i3) ||| (2 ^ i3) by show bitsOf (lfall (lstep L)) i3 ||| (if lfall (lstep L) i3 = true then 2 ^ i3 else 0) = _; rw [hfl]; rfl]; exact lv_sub hl [4, 5, 6, 1, 0] rfl)
                      · skip
                        have hlo : loose (lstep L) i3 = true := by unfold loose; rw [decide_eq_true (by assumption), ‹(decide (Ld (lstep L) i3 = 2) || lsst (lstep L) i3) = false›]; rfl
                        refine lv_iconst (v := nI 1) hx hb dX5_hourOn_175 (by decide) ?_
                        refine lv_goto (tgt := 180) hx hb dX5_hourOn_176 (by decide) ?_
                        refine lv_istore (lv' := [(5, .int (nI 1)), (0, .ref (xa cx 136)), (1, .int (nI lvl)), (2, .int (nI (31 * lvl))), (3, .int (nI (bitsOf (lfall (lstep L)) i3))), (4, .int (nI i3))]) hx hb dX5_hourOn_180 hl (by decide) rfl (fun ls hl => ?_)
                        refine lv_aload_n hx hb dX5_hourOn_182 rfl (lv_at hl 1 rfl) ?_
                        refine lv_iload_n hx hb dX5_hourOn_183 rfl (lv_at hl 2 rfl) ?_
                        refine lv_iload hx hb dX5_hourOn_184 (lv_at hl 5 rfl) ?_
                        refine cl_ip (cl_run (rest := []) F hW e_X5_99 (m_groundOf hI l hN hV3 hk3 hlv (by omega) i3 (by show i3 < Ln L; omega)) ⟨Nat.le_of_ble_eq_true rfl, Nat.le_of_ble_eq_true rfl⟩ (by omega) k136 rfl rfl rfl hl (Nat.le_of_ble_eq_true rfl) dX5_hourOn_186 ⟨Nat.zero_le _, Nat.zero_le _⟩) hW (fun H locs hW => ?_)
                        refine lv_iconst (v := nI 3) hx hb dX5_hourOn_189 (by decide) ?_
                        refine lv_aload_n hx hb dX5_hourOn_190 rfl (lv_at hl 1 rfl) ?_
                        refine nv_get F hW (by omega) k136 rfl iX5 1 (by decide) tw_630 rfl dX5_hourOn_191 ?_
                        refine lv_iload hx hb dX5_hourOn_194 (lv_at hl 5 rfl) ?_
                        refine nv_ialdN (x := ((nI (Lg L i3)))) F hW (by omega) k137 (by omega) (by decide) (hg i3 (by omega)) dX5_hourOn_196 ?_
                        refine nv_mul F dX5_hourOn_197 ?_
                        refine nv_cle (tgt := 205) F (by have := lok_l hk3 i3; have := lgr_le (lstep L) i3; omega) (by have := (hk4 i3 (by omega)).2.2.1; omega) dX5_hourOn_198 (by decide) (fun c_35 => ?_) (fun c_35 => ?_)
                        · skip
                          have hwk : ¬ 3 * Lg (lstep L) i3 < lgr (lstep L) i3 := by show ¬ 3 * Lg L i3 < _; omega
                          refine lv_iconst (v := nI 0) hx hb dX5_hourOn_205 (by decide) ?_
                          refine lv_istore (lv' := [(6, .int (nI 0)), (5, .int (nI 1)), (0, .ref (xa cx 136)), (1, .int (nI lvl)), (2, .int (nI (31 * lvl))), (3, .int (nI (bitsOf (lfall (lstep L)) i3))), (4, .int (nI i3))]) hx hb dX5_hourOn_206 hl (by decide) rfl (fun ls hl => ?_)
                          refine lv_iload_n hx hb dX5_hourOn_208 rfl (lv_at hl 5 rfl) ?_
                          refine lv_aload_n hx hb dX5_hourOn_209 rfl (lv_at hl 2 rfl) ?_
                          refine lv_iload_n hx hb dX5_hourOn_210 rfl (lv_at hl 3 rfl) ?_
                          refine lv_bipush (v := nI 18) hx hb dX5_hourOn_211 (by decide) ?_
                          refine lv_iload hx hb dX5_hourOn_213 (lv_at hl 6 rfl) ?_
                          refine cl_ip (cl_run (rest := [.int (nI (bitsOf (lfall (lstep L)) i3))]) F hW e_X5_80 (m_at18 hI l hN hV3 hk3 hlv (by omega) i3 (by show i3 < Ln L; omega)) ⟨Nat.le_of_ble_eq_true rfl, Nat.le_of_ble_eq_true rfl⟩ (by omega) k136 rfl rfl rfl hl (Nat.le_of_ble_eq_true rfl) dX5_hourOn_215 ⟨Nat.zero_le _, Nat.zero_le _⟩) hW (fun H locs hW => ?_)
                          refine lv_iconst (v := nI 1) hx hb dX5_hourOn_218 (by decide) ?_
                          refine nv_b1ne (tgt := 239) F dX5_hourOn_219 (by decide) (fun c_36 => ?_) (fun c_36 => ?_)
                          · skip
                            refine lv_iconst (v := nI 0) hx hb dX5_hourOn_239 (by decide) ?_
                            refine nv_or F dX5_hourOn_240 ?_
                            refine nv_top (y := ((nI (bitsOf (lfall (lstep L)) i3)))) (by rw [Nat.or_zero]) ?_
                            refine lv_istore_n (lv' := [(3, .int (nI (bitsOf (lfall (lstep L)) i3))), (6, .int (nI 0)), (5, .int (nI 1)), (0, .ref (xa cx 136)), (1, .int (nI lvl)), (2, .int (nI (31 * lvl))), (4, .int (nI i3))]) hx hb dX5_hourOn_241 rfl hl (by decide) rfl (fun ls hl => ?_)
                            refine lv_iinc (v := ((nI (i3 + 1)))) (lv' := [(4, .int (nI (i3 + 1))), (3, .int (nI (bitsOf (lfall (lstep L)) i3))), (6, .int (nI 0)), (5, .int (nI 1)), (0, .ref (xa cx 136)), (1, .int (nI lvl)), (2, .int (nI (31 * lvl)))]) hx hb dX5_hourOn_242 hl (k := 6) rfl (nI_add _ _) (by decide) rfl (fun ls hl => ?_)
                            refine lv_goto (tgt := 144) hx hb dX5_hourOn_245 (by decide) ?_
                            have hfl : lfall (lstep L) i3 = false := by rw [lfall_def]; first | (rw [show lst (lstep L) i3 = false from by assumption]; rfl) | (rw [hlo, decide_eq_false hwk]; simp)
                            exact ih144 (i3 + 1) _ _ _ (by omega) hW (by rw [show bitsOf (lfall (lstep L)) (i3 + 1) = bitsOf (lfall (lstep L)) i3 by show bitsOf (lfall (lstep L)) i3 ||| (if lfall (lstep L) i3 = true then 2 ^ i3 else 0) = _; rw [hfl, if_neg (by decide), Nat.or_zero]]; exact lv_sub hl [4, 5, 6, 1, 0] rfl)
                          · skip
                            refine lv_iload hx hb dX5_hourOn_222 (lv_at hl 1 rfl) ?_
                            refine nv_zne (tgt := 232) F (by decide) dX5_hourOn_224 (by decide) (fun c_37 => ?_) (fun c_37 => ?_)
                            · skip
                              refine lv_iconst (v := nI 1) hx hb dX5_hourOn_232 (by decide) ?_
                              refine lv_iload hx hb dX5_hourOn_233 (lv_at hl 6 rfl) ?_
                              refine nv_shl F (by omega) (pow2_lt (by omega)) dX5_hourOn_235 ?_
                              refine nv_top (y := ((nI (2 ^ i3)))) (by rw [Nat.one_mul]) ?_
                              refine lv_goto (tgt := 240) hx hb dX5_hourOn_236 (by decide) ?_
                              refine nv_or F dX5_hourOn_240 ?_
                              refine lv_istore_n (lv' := [(3, .int (nI ((bitsOf (lfall (lstep L)) i3) ||| (2 ^ i3)))), (6, .int (nI 0)), (5, .int (nI 1)), (0, .ref (xa cx 136)), (1, .int (nI lvl)), (2, .int (nI (31 * lvl))), (4, .int (nI i3))]) hx hb dX5_hourOn_241 rfl hl (by decide) rfl (fun ls hl => ?_)
                              refine lv_iinc (v := ((nI (i3 + 1)))) (lv' := [(4, .int (nI (i3 + 1))), (3, .int (nI ((bitsOf (lfall (lstep L)) i3) ||| (2 ^ i3)))), (6, .int (nI 0)), (5, .int (nI 1)), (0, .ref (xa cx 136)), (1, .int (nI lvl)), (2, .int (nI (31 * lvl)))]) hx hb dX5_hourOn_242 hl (k := 6) rfl (nI_add _ _) (by decide) rfl (fun ls hl => ?_)
                              refine lv_goto (tgt := 144) hx hb dX5_hourOn_245 (by decide) ?_
                              have hfl : lfall (lstep L) i3 = true := by rw [lfall_def]; rw [show lst (lstep L) i3 = true from by assumption]; first | (rw [hlo]; rfl) | (rw [decide_eq_true hwk]; simp)
                              exact ih144 (i3 + 1) _ _ _ (by omega) hW (by rw [show bitsOf (lfall (lstep L)) (i3 + 1) = (bitsOf (lfall (lstep L)) i3) ||| (2 ^ i3) by show bitsOf (lfall (lstep L)) i3 ||| (if lfall (lstep L) i3 = true then 2 ^ i3 else 0) = _; rw [hfl]; rfl]; exact lv_sub hl [4, 5, 6, 1, 0] rfl)
                            · skip
                              exact absurd c_37 (by decide)
                        · skip
                          have hwk : 3 * Lg (lstep L) i3 < lgr (lstep L) i3 := by show 3 * Lg L i3 < _; omega
                          refine lv_iconst (v := nI 1) hx hb dX5_hourOn_201 (by decide) ?_
                          refine lv_goto (tgt := 206) hx hb dX5_hourOn_202 (by decide) ?_
                          refine lv_istore (lv' := [(6, .int (nI 1)), (5, .int (nI 1)), (0, .ref (xa cx 136)), (1, .int (nI lvl)), (2, .int (nI (31 * lvl))), (3, .int (nI (bitsOf (lfall (lstep L)) i3))), (4, .int (nI i3))]) hx hb dX5_hourOn_206 hl (by decide) rfl (fun ls hl => ?_)
                          refine lv_iload_n hx hb dX5_hourOn_208 rfl (lv_at hl 5 rfl) ?_
                          refine lv_aload_n hx hb dX5_hourOn_209 rfl (lv_at hl 2 rfl) ?_
                          refine lv_iload_n hx hb dX5_hourOn_210 rfl (lv_at hl 3 rfl) ?_
                          refine lv_bipush (v := nI 18) hx hb dX5_hourOn_211 (by decide) ?_
                          refine lv_iload hx hb dX5_hourOn_213 (lv_at hl 6 rfl) ?_
                          refine cl_ip (cl_run (rest := [.int (nI (bitsOf (lfall (lstep L)) i3))]) F hW e_X5_80 (m_at18 hI l hN hV3 hk3 hlv (by omega) i3 (by show i3 < Ln L; omega)) ⟨Nat.le_of_ble_eq_true rfl, Nat.le_of_ble_eq_true rfl⟩ (by omega) k136 rfl rfl rfl hl (Nat.le_of_ble_eq_true rfl) dX5_hourOn_215 ⟨Nat.zero_le _, Nat.zero_le _⟩) hW (fun H locs hW => ?_)
                          refine lv_iconst (v := nI 1) hx hb dX5_hourOn_218 (by decide) ?_
                          refine nv_b1ne (tgt := 239) F dX5_hourOn_219 (by decide) (fun c_38 => ?_) (fun c_38 => ?_)
                          · skip
                            refine lv_iconst (v := nI 0) hx hb dX5_hourOn_239 (by decide) ?_
                            refine nv_or F dX5_hourOn_240 ?_
                            refine nv_top (y := ((nI (bitsOf (lfall (lstep L)) i3)))) (by rw [Nat.or_zero]) ?_
                            refine lv_istore_n (lv' := [(3, .int (nI (bitsOf (lfall (lstep L)) i3))), (6, .int (nI 1)), (5, .int (nI 1)), (0, .ref (xa cx 136)), (1, .int (nI lvl)), (2, .int (nI (31 * lvl))), (4, .int (nI i3))]) hx hb dX5_hourOn_241 rfl hl (by decide) rfl (fun ls hl => ?_)
                            refine lv_iinc (v := ((nI (i3 + 1)))) (lv' := [(4, .int (nI (i3 + 1))), (3, .int (nI (bitsOf (lfall (lstep L)) i3))), (6, .int (nI 1)), (5, .int (nI 1)), (0, .ref (xa cx 136)), (1, .int (nI lvl)), (2, .int (nI (31 * lvl)))]) hx hb dX5_hourOn_242 hl (k := 6) rfl (nI_add _ _) (by decide) rfl (fun ls hl => ?_)
                            refine lv_goto (tgt := 144) hx hb dX5_hourOn_245 (by decide) ?_
                            have hfl : lfall (lstep L) i3 = false := by rw [lfall_def]; first | (rw [show lst (lstep L) i3 = false from by assumption]; rfl) | (rw [hlo, decide_eq_false hwk]; simp)
                            exact ih144 (i3 + 1) _ _ _ (by omega) hW (by rw [show bitsOf (lfall (lstep L)) (i3 + 1) = bitsOf (lfall (lstep L)) i3 by show bitsOf (lfall (lstep L)) i3 ||| (if lfall (lstep L) i3 = true then 2 ^ i3 else 0) = _; rw [hfl, if_neg (by decide), Nat.or_zero]]; exact lv_sub hl [4, 5, 6, 1, 0] rfl)
                          · skip
                            refine lv_iload hx hb dX5_hourOn_222 (lv_at hl 1 rfl) ?_
                            refine nv_zne (tgt := 232) F (by decide) dX5_hourOn_224 (by decide) (fun c_39 => ?_) (fun c_39 => ?_)
                            · skip
                              refine lv_iconst (v := nI 1) hx hb dX5_hourOn_232 (by decide) ?_
                              refine lv_iload hx hb dX5_hourOn_233 (lv_at hl 6 rfl) ?_
                              refine nv_shl F (by omega) (pow2_lt (by omega)) dX5_hourOn_235 ?_
                              refine nv_top (y := ((nI (2 ^ i3)))) (by rw [Nat.one_mul]) ?_
                              refine lv_goto (tgt := 240) hx hb dX5_hourOn_236 (by decide) ?_
                              refine nv_or F dX5_hourOn_240 ?_
                              refine lv_istore_n (lv' := [(3, .int (nI ((bitsOf (lfall (lstep L)) i3) ||| (2 ^ i3)))), (6, .int (nI 1)), (5, .int (nI 1)), (0, .ref (xa cx 136)), (1, .int (nI lvl)), (2, .int (nI (31 * lvl))), (4, .int (nI i3))]) hx hb dX5_hourOn_241 rfl hl (by decide) rfl (fun ls hl => ?_)
                              refine lv_iinc (v := ((nI (i3 + 1)))) (lv' := [(4, .int (nI (i3 + 1))), (3, .int (nI ((bitsOf (lfall (lstep L)) i3) ||| (2 ^ i3)))), (6, .int (nI 1)), (5, .int (nI 1)), (0, .ref (xa cx 136)), (1, .int (nI lvl)), (2, .int (nI (31 * lvl)))]) hx hb dX5_hourOn_242 hl (k := 6) rfl (nI_add _ _) (by decide) rfl (fun ls hl => ?_)
                              refine lv_goto (tgt := 144) hx hb dX5_hourOn_245 (by decide) ?_
                              have hfl : lfall (lstep L) i3 = true := by rw [lfall_def]; rw [show lst (lstep L) i3 = true from by assumption]; first | (rw [hlo]; rfl) | (rw [decide_eq_true hwk]; simp)
                              exact ih144 (i3 + 1) _ _ _ (by omega) hW (by rw [show bitsOf (lfall (lstep L)) (i3 + 1) = (bitsOf (lfall (lstep L)) i3) ||| (2 ^ i3) by show bitsOf (lfall (lstep L)) i3 ||| (if lfall (lstep L) i3 = true then 2 ^ i3 else 0) = _; rw [hfl]; rfl]; exact lv_sub hl [4, 5, 6, 1, 0] rfl)
                            · skip
                              exact absurd c_39 (by decide)
              exact LOOP144 (Ln L) 0 _ _ _ (by omega) hW (lv_sub hl [2, 3, 4, 1, 0] rfl)
            · skip
              exact absurd c_2 (by omega)
          | succ d92 ih92 =>
            intro i2 q μ2 H locs ls hid hq138 hq141 hqo hqf hlq hW hl
            have k136 := (hqo 136 (by omega) (by omega)).trans g136
            have k137 := (hqo 137 (by omega) (by omega)).trans g137
            have k142 := (hqo 142 (by omega) (by omega)).trans g142
            have hV2 : mdV cx μ2 lvl (midL L i2) := ⟨rh, tn, ac, nx, se, sx, f1, q, g, fa, k136, k137, hq138, hq141, k142, hg, hlq⟩
            have hk2 := lok_mid hk i2
            refine lv_iload_n hx hb dX5_hourOn_92 rfl (lv_at hl 3 rfl) ?_
            refine lv_aload_n hx hb dX5_hourOn_93 rfl (lv_at hl 0 rfl) ?_
            refine nv_get F hW (by omega) k136 rfl iX5 0 (by decide) tw_629 rfl dX5_hourOn_94 ?_
            refine nv_cge (tgt := 139) F (by omega) (by omega) dX5_hourOn_97 (by decide) (fun c_40 => ?_) (fun c_40 => ?_)
            · skip
              exact absurd c_40 (by omega)
            · skip
              refine lv_aload_n hx hb dX5_hourOn_100 rfl (lv_at hl 0 rfl) ?_
              refine nv_get F hW (by omega) k136 rfl iX5 2 (by decide) tw_631 rfl dX5_hourOn_101 ?_
              refine lv_iload_n hx hb dX5_hourOn_104 rfl (lv_at hl 2 rfl) ?_
              refine lv_bipush (v := nI 24) hx hb dX5_hourOn_105 (by decide) ?_
              refine nv_add F dX5_hourOn_107 ?_
              refine lv_iload_n hx hb dX5_hourOn_108 rfl (lv_at hl 3 rfl) ?_
              refine nv_add F dX5_hourOn_109 ?_
              refine lv_aload_n hx hb dX5_hourOn_110 rfl (lv_at hl 0 rfl) ?_
              refine lv_iload_n hx hb dX5_hourOn_111 rfl (lv_at hl 1 rfl) ?_
              refine lv_bipush (v := nI 18) hx hb dX5_hourOn_112 (by decide) ?_
              refine lv_iload_n hx hb dX5_hourOn_114 rfl (lv_at hl 3 rfl) ?_
              refine cl_ip (cl_run (rest := [.int (nI (((31 * lvl) + 24) + i2)), .ref (xa cx 138)]) F hW e_X5_80 (m_at18 hI l hN hV2 hk2 hlv (by omega) i2 (by show i2 < Ln L; omega)) ⟨Nat.le_of_ble_eq_true rfl, Nat.le_of_ble_eq_true rfl⟩ (by omega) k136 rfl rfl rfl hl (Nat.le_of_ble_eq_true rfl) dX5_hourOn_115 ⟨Nat.zero_le _, Nat.zero_le _⟩) hW (fun H locs hW => ?_)
              refine lv_iconst (v := nI 1) hx hb dX5_hourOn_118 (by decide) ?_
              refine nv_b1ne (tgt := 131) F dX5_hourOn_119 (by decide) (fun c_41 => ?_) (fun c_41 => ?_)
              · skip
                refine lv_iconst (v := nI 0) hx hb dX5_hourOn_131 (by decide) ?_
                refine nv_iastN F hW (by omega) hq138 (by omega) (by decide) dX5_hourOn_132 (fun H locs hW => ?_)
                obtain ⟨μ42, eμ42⟩ : ∃ zz9 : ME, zz9 = va_up μ2 138 (.inl (xT cx 0, 62, .inl (upd q (((31 * lvl) + 24) + i2) ((nI 0))))) := ⟨_, rfl⟩
                have hW : St cx s μ42 H locs := by rw [eμ42]; exact hW
                have h136_42 := (congrFun eμ42 136).trans ((va_up_ne _ _ (by omega)).trans k136)
                have h137_42 := (congrFun eμ42 137).trans ((va_up_ne _ _ (by omega)).trans k137)
                have h138_42 : μ42 138 = .inl (xT cx 0, 62, .inl (upd q (((31 * lvl) + 24) + i2) ((nI 0)))) := by rw [eμ42, va_up_self]
                have h141_42 := (congrFun eμ42 141).trans ((va_up_ne _ _ (by omega)).trans hq141)
                have h142_42 := (congrFun eμ42 142).trans ((va_up_ne _ _ (by omega)).trans k142)
                refine lv_iinc (v := ((nI (i2 + 1)))) (lv' := [(3, .int (nI (i2 + 1))), (0, .ref (xa cx 136)), (1, .int (nI lvl)), (2, .int (nI (31 * lvl)))]) hx hb dX5_hourOn_133 hl (k := 3) rfl (nI_add _ _) (by decide) rfl (fun ls hl => ?_)
                refine lv_goto (tgt := 92) hx hb dX5_hourOn_136 (by decide) ?_
                have hm5 : μ42 138 = _ := h138_42
                have hval : (if lst L i2 then lnew L i2 else 0) = 0 := by rw [show lst L i2 = false from ‹lst (midL L i2) i2 = false›]; rfl
                exact ih92 (i2 + 1) _ μ42 _ _ _ (by omega) hm5 (by rw [eμ42, va_up_ne _ _ (by omega)]; exact hq141) (fun z h1 h2 => ((congrFun eμ42 z).trans (va_up_ne _ _ h1)).trans (hqo z h1 h2)) (fun z hz => by rw [upd_ne (by omega)]; exact hqf z hz) (by have q9 := lv_mid hlq hn6 (show i2 < Ln L by omega); rw [hval] at q9; exact q9) hW (lv_sub hl [1, 2, 3, 0] rfl)
              · skip
                refine lv_aload_n hx hb dX5_hourOn_122 rfl (lv_at hl 0 rfl) ?_
                refine nv_get F hW (by omega) k136 rfl iX5 7 (by decide) tw_636 rfl dX5_hourOn_123 ?_
                refine lv_iload_n hx hb dX5_hourOn_126 rfl (lv_at hl 3 rfl) ?_
                refine nv_ialdN (x := ((nI (lnew L i2)))) F hW (by omega) hq141 (by omega) (by decide) (hgn i2 (by omega)) dX5_hourOn_127 ?_
                refine lv_goto (tgt := 132) hx hb dX5_hourOn_128 (by decide) ?_
                refine nv_iastN F hW (by omega) hq138 (by omega) (by decide) dX5_hourOn_132 (fun H locs hW => ?_)
                obtain ⟨μ43, eμ43⟩ : ∃ zz9 : ME, zz9 = va_up μ2 138 (.inl (xT cx 0, 62, .inl (upd q (((31 * lvl) + 24) + i2) ((nI (lnew L i2)))))) := ⟨_, rfl⟩
                have hW : St cx s μ43 H locs := by rw [eμ43]; exact hW
                have h136_43 := (congrFun eμ43 136).trans ((va_up_ne _ _ (by omega)).trans k136)
                have h137_43 := (congrFun eμ43 137).trans ((va_up_ne _ _ (by omega)).trans k137)
                have h138_43 : μ43 138 = .inl (xT cx 0, 62, .inl (upd q (((31 * lvl) + 24) + i2) ((nI (lnew L i2))))) := by rw [eμ43, va_up_self]
                have h141_43 := (congrFun eμ43 141).trans ((va_up_ne _ _ (by omega)).trans hq141)
                have h142_43 := (congrFun eμ43 142).trans ((va_up_ne _ _ (by omega)).trans k142)
                refine lv_iinc (v := ((nI (i2 + 1)))) (lv' := [(3, .int (nI (i2 + 1))), (0, .ref (xa cx 136)), (1, .int (nI lvl)), (2, .int (nI (31 * lvl)))]) hx hb dX5_hourOn_133 hl (k := 3) rfl (nI_add _ _) (by decide) rfl (fun ls hl => ?_)
                refine lv_goto (tgt := 92) hx hb dX5_hourOn_136 (by decide) ?_
                have hm5 : μ43 138 = _ := h138_43
                have hval : (if lst L i2 then lnew L i2 else 0) = lnew L i2 := by rw [show lst L i2 = true from ‹lst (midL L i2) i2 = true›]; rfl
                exact ih92 (i2 + 1) _ μ43 _ _ _ (by omega) hm5 (by rw [eμ43, va_up_ne _ _ (by omega)]; exact hq141) (fun z h1 h2 => ((congrFun eμ43 z).trans (va_up_ne _ _ h1)).trans (hqo z h1 h2)) (fun z hz => by rw [upd_ne (by omega)]; exact hqf z hz) (by have q9 := lv_mid hlq hn6 (show i2 < Ln L by omega); rw [hval] at q9; exact q9) hW (lv_sub hl [1, 2, 3, 0] rfl)
        exact LOOP92 (Ln L) 0 fn μ1 _ _ _ (by omega) k138 hm (fun z h1 h2 => hmo z h2) (fun _ _ => rfl) (lv_mid0 hv) hW (lv_sub hl [1, 2, 3, 0] rfl)
      · skip
        exact absurd c_1 (by omega)
    | succ d7 ih7 =>
      intro i g μ1 H locs ls hid hm hmo hgt hW hl
      have k136 := (hmo 136 (by omega)).trans g136
      have k137 := (hmo 137 (by omega)).trans g137
      have k138 := (hmo 138 (by omega)).trans g138
      have k142 := (hmo 142 (by omega)).trans g142
      have hV1 : mdV cx μ1 lvl L := ⟨rh, tn, ac, nx, se, sx, f1, fn, g, fa, k136, k137, k138, hm, k142, hg, hv⟩
      refine lv_iload_n hx hb dX5_hourOn_7 rfl (lv_at hl 3 rfl) ?_
      refine lv_aload_n hx hb dX5_hourOn_8 rfl (lv_at hl 0 rfl) ?_
      refine nv_get F hW (by omega) k136 rfl iX5 0 (by decide) tw_629 rfl dX5_hourOn_9 ?_
      refine nv_cge (tgt := 90) F (by omega) (by omega) dX5_hourOn_12 (by decide) (fun c_44 => ?_) (fun c_44 => ?_)
      · skip
        exact absurd c_44 (by omega)
      · skip
        refine lv_aload_n hx hb dX5_hourOn_15 rfl (lv_at hl 0 rfl) ?_
        refine nv_get F hW (by omega) k136 rfl iX5 7 (by decide) tw_636 rfl dX5_hourOn_16 ?_
        refine lv_iload_n hx hb dX5_hourOn_19 rfl (lv_at hl 3 rfl) ?_
        refine lv_aload_n hx hb dX5_hourOn_20 rfl (lv_at hl 0 rfl) ?_
        refine lv_iload_n hx hb dX5_hourOn_21 rfl (lv_at hl 1 rfl) ?_
        refine lv_bipush (v := nI 6) hx hb dX5_hourOn_22 (by decide) ?_
        refine lv_iload_n hx hb dX5_hourOn_24 rfl (lv_at hl 3 rfl) ?_
        refine cl_ip (cl_run (rest := [.int (nI i), .ref (xa cx 141)]) F hW e_X5_80 (m_at6 hI l hN hV1 hk hlv (by omega) i (by omega)) ⟨Nat.le_of_ble_eq_true rfl, Nat.le_of_ble_eq_true rfl⟩ (by omega) k136 rfl rfl rfl hl (Nat.le_of_ble_eq_true rfl) dX5_hourOn_25 ⟨Nat.zero_le _, Nat.zero_le _⟩) hW (fun H locs hW => ?_)
        refine nv_iastN F hW (by omega) hm (by omega) (by decide) dX5_hourOn_28 (fun H locs hW => ?_)
        obtain ⟨μ45, eμ45⟩ : ∃ zz9 : ME, zz9 = va_up μ1 141 (.inl (xT cx 0, 6, .inl (upd g i ((nI (Ls L i)))))) := ⟨_, rfl⟩
        have hW : St cx s μ45 H locs := by rw [eμ45]; exact hW
        have h136_45 := (congrFun eμ45 136).trans ((va_up_ne _ _ (by omega)).trans k136)
        have h137_45 := (congrFun eμ45 137).trans ((va_up_ne _ _ (by omega)).trans k137)
        have h138_45 := (congrFun eμ45 138).trans ((va_up_ne _ _ (by omega)).trans k138)
        have h141_45 : μ45 141 = .inl (xT cx 0, 6, .inl (upd g i ((nI (Ls L i))))) := by rw [eμ45, va_up_self]
        have h142_45 := (congrFun eμ45 142).trans ((va_up_ne _ _ (by omega)).trans k142)
        refine lv_iconst (v := nI 0) hx hb dX5_hourOn_29 (by decide) ?_
        refine lv_istore (lv' := [(4, .int (nI 0)), (0, .ref (xa cx 136)), (1, .int (nI lvl)), (2, .int (nI (31 * lvl))), (3, .int (nI i))]) hx hb dX5_hourOn_30 hl (by decide) rfl (fun ls hl => ?_)
        have hm1 : μ45 141 = _ := h141_45
        have LOOP32 : ∀ (d32 ev : Nat) (g2 : Nat → Int32) (μ1 : ME) (H : Heap) (locs : List Loc) (ls : Array Slot), ev + d32 = Ln L → (μ1 141 = .inl (xT cx 0, 6, .inl g2)) → (∀ z, ¬ z = 141 → μ1 z = μ z) → (∀ t, t < i → g2 t = nI (lnew L t)) → (g2 i = nI (lpR L i ev)) → St cx s μ1 H locs → lv_has ls 7 [(0, .ref (xa cx 136)), (1, .int (nI lvl)), (2, .int (nI (31 * lvl))), (3, .int (nI i)), (4, .int (nI ev))] → W p l e { frames := 3, cells := 0, slots := 0, locals := 69 } s m [.ref (xa cx 136), .int (nI lvl)].toArray below meth c H locs 0 0 (MQ below (Ei cx (nI (hF L)) (lvP cx μ lvl (hour L))) [.ref (xa cx 136), .int (nI lvl)].toArray s 0 0 (xA cx)) (F0 m 32 ls []) := by
          intro d32
          induction d32 with
          | zero =>
            intro ev g2 μ1 H locs ls hid hm2 hmo hgt hge hW hl
            have k136 := (hmo 136 (by omega)).trans g136
            have k137 := (hmo 137 (by omega)).trans g137
            have k138 := (hmo 138 (by omega)).trans g138
            have k142 := (hmo 142 (by omega)).trans g142
            have hV1 : mdV cx μ1 lvl L := ⟨rh, tn, ac, nx, se, sx, f1, fn, g2, fa, k136, k137, k138, hm2, k142, hg, hv⟩
            refine lv_iload hx hb dX5_hourOn_32 (lv_at hl 4 rfl) ?_
            refine lv_aload_n hx hb dX5_hourOn_34 rfl (lv_at hl 0 rfl) ?_
            refine nv_get F hW (by omega) k136 rfl iX5 0 (by decide) tw_629 rfl dX5_hourOn_35 ?_
            refine nv_cge (tgt := 84) F (by omega) (by omega) dX5_hourOn_38 (by decide) (fun c_46 => ?_) (fun c_46 => ?_)
            · skip
              refine lv_iinc (v := ((nI (i + 1)))) (lv' := [(3, .int (nI (i + 1))), (0, .ref (xa cx 136)), (1, .int (nI lvl)), (2, .int (nI (31 * lvl))), (4, .int (nI ev))]) hx hb dX5_hourOn_84 hl (k := 3) rfl (nI_add _ _) (by decide) rfl (fun ls hl => ?_)
              refine lv_goto (tgt := 7) hx hb dX5_hourOn_87 (by decide) ?_
              exact ih7 (i + 1) _ μ1 _ _ _ (by omega) hm2 hmo (fun t ht => (Nat.lt_or_ge t i).elim (fun q => hgt t q) (fun q => by have e9 : t = i := (by omega); rw [e9, hge, show ev = Ln L by omega, lpR_n (by omega)])) hW (lv_sub hl [1, 2, 3, 0] rfl)
            · skip
              exact absurd c_46 (by omega)
          | succ d32 ih32 =>
            intro ev g2 μ1 H locs ls hid hm2 hmo hgt hge hW hl
            have k136 := (hmo 136 (by omega)).trans g136
            have k137 := (hmo 137 (by omega)).trans g137
            have k138 := (hmo 138 (by omega)).trans g138
            have k142 := (hmo 142 (by omega)).trans g142
            have hV1 : mdV cx μ1 lvl L := ⟨rh, tn, ac, nx, se, sx, f1, fn, g2, fa, k136, k137, k138, hm2, k142, hg, hv⟩
            refine lv_iload hx hb dX5_hourOn_32 (lv_at hl 4 rfl) ?_
            refine lv_aload_n hx hb dX5_hourOn_34 rfl (lv_at hl 0 rfl) ?_
            refine nv_get F hW (by omega) k136 rfl iX5 0 (by decide) tw_629 rfl dX5_hourOn_35 ?_
            refine nv_cge (tgt := 84) F (by omega) (by omega) dX5_hourOn_38 (by decide) (fun c_47 => ?_) (fun c_47 => ?_)
            · skip
              exact absurd c_47 (by omega)
            · skip
              refine lv_aload_n hx hb dX5_hourOn_41 rfl (lv_at hl 0 rfl) ?_
              refine nv_get F hW (by omega) k136 rfl iX5 7 (by decide) tw_636 rfl dX5_hourOn_42 ?_
              refine lv_iload_n hx hb dX5_hourOn_45 rfl (lv_at hl 3 rfl) ?_
              refine lv_dup2_11 hx hb dX5_hourOn_46 rfl rfl ?_
              refine nv_ialdN (x := ((nI (lpR L i ev)))) F hW (by omega) hm2 (by omega) (by decide) hge dX5_hourOn_47 ?_
              refine lv_iload hx hb dX5_hourOn_48 (lv_at hl 4 rfl) ?_
              refine lv_iload_n hx hb dX5_hourOn_50 rfl (lv_at hl 3 rfl) ?_
              refine nv_ceq (tgt := 75) F (by omega) (by omega) dX5_hourOn_51 (by decide) (fun c_48 => ?_) (fun c_48 => ?_)
              · skip
                refine lv_iconst (v := nI 0) hx hb dX5_hourOn_75 (by decide) ?_
                refine nv_add F dX5_hourOn_76 ?_
                refine nv_iastN F hW (by omega) hm2 (by omega) (by decide) dX5_hourOn_77 (fun H locs hW => ?_)
                obtain ⟨μ49, eμ49⟩ : ∃ zz9 : ME, zz9 = va_up μ1 141 (.inl (xT cx 0, 6, .inl (upd g2 i ((nI ((lpR L i ev) + 0)))))) := ⟨_, rfl⟩
                have hW : St cx s μ49 H locs := by rw [eμ49]; exact hW
                have h136_49 := (congrFun eμ49 136).trans ((va_up_ne _ _ (by omega)).trans k136)
                have h137_49 := (congrFun eμ49 137).trans ((va_up_ne _ _ (by omega)).trans k137)
                have h138_49 := (congrFun eμ49 138).trans ((va_up_ne _ _ (by omega)).trans k138)
                have h141_49 : μ49 141 = .inl (xT cx 0, 6, .inl (upd g2 i ((nI ((lpR L i ev) + 0))))) := by rw [eμ49, va_up_self]
                have h142_49 := (congrFun eμ49 142).trans ((va_up_ne _ _ (by omega)).trans k142)
                refine lv_iinc (v := ((nI (ev + 1)))) (lv' := [(4, .int (nI (ev + 1))), (0, .ref (xa cx 136)), (1, .int (nI lvl)), (2, .int (nI (31 * lvl))), (3, .int (nI i))]) hx hb dX5_hourOn_78 hl (k := 4) rfl (nI_add _ _) (by decide) rfl (fun ls hl => ?_)
                refine lv_goto (tgt := 32) hx hb dX5_hourOn_81 (by decide) ?_
                have hm3 : μ49 141 = _ := h141_49
                exact ih32 (ev + 1) _ μ49 _ _ _ (by omega) hm3 (fun z hz => ((congrFun eμ49 z).trans (va_up_ne _ _ hz)).trans (hmo z hz)) (fun t ht => by rw [upd_ne (by omega)]; exact hgt t ht) (by rw [upd_eq rfl]; rw [lpR_stay (fun z => by first | exact absurd ((ln_eq (d := Ld L ev) (e := ev) (h := i) (by omega) (by omega)).mpr z) (by rw [← exl]; assumption) | (rcases z with z | z <;> omega))]; rfl) hW (lv_sub hl [1, 2, 3, 4, 0] rfl)
              · skip
                refine lv_aload_n hx hb dX5_hourOn_54 rfl (lv_at hl 0 rfl) ?_
                refine lv_iload_n hx hb dX5_hourOn_55 rfl (lv_at hl 1 rfl) ?_
                refine lv_iload hx hb dX5_hourOn_56 (lv_at hl 4 rfl) ?_
                refine cl_ip (cl_run (rest := [.int (nI (lpR L i ev)), .int (nI i), .ref (xa cx 141)]) F hW e_X5_88 (m_leansOn hI l hN hV1 hk hlv (by omega) ev (by omega)) ⟨Nat.le_of_ble_eq_true rfl, Nat.le_of_ble_eq_true rfl⟩ (by omega) k136 rfl rfl rfl hl (Nat.le_of_ble_eq_true rfl) dX5_hourOn_58 ⟨Nat.zero_le _, Nat.zero_le _⟩) hW (fun H locs hW => ?_)
                refine lv_topi (fun xl exl => ?_)
                refine lv_iload_n hx hb dX5_hourOn_61 rfl (lv_at hl 3 rfl) ?_
                refine lv_icmp_ne (tgt := 75) hx hb dX5_hourOn_62 (by decide) (fun c_50 => ?_) (fun c_50 => ?_)
                · skip
                  refine lv_iconst (v := nI 0) hx hb dX5_hourOn_75 (by decide) ?_
                  refine nv_add F dX5_hourOn_76 ?_
                  refine nv_iastN F hW (by omega) hm2 (by omega) (by decide) dX5_hourOn_77 (fun H locs hW => ?_)
                  obtain ⟨μ51, eμ51⟩ : ∃ zz9 : ME, zz9 = va_up μ1 141 (.inl (xT cx 0, 6, .inl (upd g2 i ((nI ((lpR L i ev) + 0)))))) := ⟨_, rfl⟩
                  have hW : St cx s μ51 H locs := by rw [eμ51]; exact hW
                  have h136_51 := (congrFun eμ51 136).trans ((va_up_ne _ _ (by omega)).trans k136)
                  have h137_51 := (congrFun eμ51 137).trans ((va_up_ne _ _ (by omega)).trans k137)
                  have h138_51 := (congrFun eμ51 138).trans ((va_up_ne _ _ (by omega)).trans k138)
                  have h141_51 : μ51 141 = .inl (xT cx 0, 6, .inl (upd g2 i ((nI ((lpR L i ev) + 0))))) := by rw [eμ51, va_up_self]
                  have h142_51 := (congrFun eμ51 142).trans ((va_up_ne _ _ (by omega)).trans k142)
                  refine lv_iinc (v := ((nI (ev + 1)))) (lv' := [(4, .int (nI (ev + 1))), (0, .ref (xa cx 136)), (1, .int (nI lvl)), (2, .int (nI (31 * lvl))), (3, .int (nI i))]) hx hb dX5_hourOn_78 hl (k := 4) rfl (nI_add _ _) (by decide) rfl (fun ls hl => ?_)
                  refine lv_goto (tgt := 32) hx hb dX5_hourOn_81 (by decide) ?_
                  have hm3 : μ51 141 = _ := h141_51
                  exact ih32 (ev + 1) _ μ51 _ _ _ (by omega) hm3 (fun z hz => ((congrFun eμ51 z).trans (va_up_ne _ _ hz)).trans (hmo z hz)) (fun t ht => by rw [upd_ne (by omega)]; exact hgt t ht) (by rw [upd_eq rfl]; rw [lpR_stay (fun z => by first | exact absurd ((ln_eq (d := Ld L ev) (e := ev) (h := i) (by omega) (by omega)).mpr z) (by rw [← exl]; assumption) | (rcases z with z | z <;> omega))]; rfl) hW (lv_sub hl [1, 2, 3, 4, 0] rfl)
                · skip
                  refine lv_aload_n hx hb dX5_hourOn_65 rfl (lv_at hl 0 rfl) ?_
                  refine lv_iload_n hx hb dX5_hourOn_66 rfl (lv_at hl 1 rfl) ?_
                  refine lv_iload hx hb dX5_hourOn_67 (lv_at hl 4 rfl) ?_
                  have hkey := (ln_eq (d := Ld L ev) (e := ev) (h := i) (by omega) (by omega)).mp (exl.symm.trans (by assumption))
                  refine cl_ip (cl_run (rest := [.int (nI (lpR L i ev)), .int (nI i), .ref (xa cx 141)]) F hW e_X5_84 (m_givesOf hI l hN hV1 hk hlv (by omega) ev (by omega)) ⟨Nat.le_of_ble_eq_true rfl, Nat.le_of_ble_eq_true rfl⟩ (by omega) k136 rfl rfl rfl hl (Nat.le_of_ble_eq_true rfl) dX5_hourOn_69 ⟨Nat.zero_le _, Nat.zero_le _⟩) hW (fun H locs hW => ?_)
                  refine lv_goto (tgt := 76) hx hb dX5_hourOn_72 (by decide) ?_
                  refine nv_add F dX5_hourOn_76 ?_
                  refine nv_iastN F hW (by omega) hm2 (by omega) (by decide) dX5_hourOn_77 (fun H locs hW => ?_)
                  obtain ⟨μ52, eμ52⟩ : ∃ zz9 : ME, zz9 = va_up μ1 141 (.inl (xT cx 0, 6, .inl (upd g2 i ((nI ((lpR L i ev) + (lgi L ev))))))) := ⟨_, rfl⟩
                  have hW : St cx s μ52 H locs := by rw [eμ52]; exact hW
                  have h136_52 := (congrFun eμ52 136).trans ((va_up_ne _ _ (by omega)).trans k136)
                  have h137_52 := (congrFun eμ52 137).trans ((va_up_ne _ _ (by omega)).trans k137)
                  have h138_52 := (congrFun eμ52 138).trans ((va_up_ne _ _ (by omega)).trans k138)
                  have h141_52 : μ52 141 = .inl (xT cx 0, 6, .inl (upd g2 i ((nI ((lpR L i ev) + (lgi L ev)))))) := by rw [eμ52, va_up_self]
                  have h142_52 := (congrFun eμ52 142).trans ((va_up_ne _ _ (by omega)).trans k142)
                  refine lv_iinc (v := ((nI (ev + 1)))) (lv' := [(4, .int (nI (ev + 1))), (0, .ref (xa cx 136)), (1, .int (nI lvl)), (2, .int (nI (31 * lvl))), (3, .int (nI i))]) hx hb dX5_hourOn_78 hl (k := 4) rfl (nI_add _ _) (by decide) rfl (fun ls hl => ?_)
                  refine lv_goto (tgt := 32) hx hb dX5_hourOn_81 (by decide) ?_
                  have hm3 : μ52 141 = _ := h141_52
                  exact ih32 (ev + 1) _ μ52 _ _ _ (by omega) hm3 (fun z hz => ((congrFun eμ52 z).trans (va_up_ne _ _ hz)).trans (hmo z hz)) (fun t ht => by rw [upd_ne (by omega)]; exact hgt t ht) (by rw [upd_eq rfl]; rw [lpR_go hkey]) hW (lv_sub hl [1, 2, 3, 4, 0] rfl)
        exact LOOP32 (Ln L) 0 _ μ45 _ _ _ (by omega) hm1 (fun z hz => ((congrFun eμ45 z).trans (va_up_ne _ _ hz)).trans (hmo z hz)) (fun t ht => by rw [upd_ne (by omega)]; exact hgt t ht) (by rw [upd_eq rfl, lpR_0]) hW (lv_sub hl [1, 2, 3, 4, 0] rfl)
  exact LOOP7 (Ln L) 0 fo μ _ _ _ (by omega) g141 (fun _ _ => rfl) (fun t ht => absurd ht (by omega)) hW (lv_sub hl [2, 3, 1, 0] rfl)
