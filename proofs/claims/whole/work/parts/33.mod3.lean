/-- the reference's object; Tr: what its trial (level 1) is -/
def modX (cx : CX) (μ : ME) (S : AS) (Tr : (Nat → Int32) → Prop) : Prop := ∃ (rh : Int32) (nx : Nat) (f1 fn frd ft fo fa frw fh fu fb fz fkp : Nat → Int32),
  μ 136 = .inr (5, [.int (nI (Ln (AL S))), .ref (xa cx 137), .ref (xa cx 138), .ref (xa cx 139), .int rh, .ref (xa cx 140), .int (nI (An S)), .ref (xa cx 141), .ref (xa cx 142), .int (nI (Az S)), .int (nI nx), .ref (xa cx 143), .int (nI (Ay S)), .ref (xa cx 144), .ref (xa cx 145), .ref (xa cx 146), .long (Ad S), .ref (xa cx 147), .ref (xa cx 148)]) ∧
  μ 137 = .inl (xT cx 0, 6, .inl f1) ∧ μ 138 = .inl (xT cx 0, 62, .inl fn) ∧ μ 139 = .inl (xT cx 0, 24, .inl frd) ∧ μ 140 = .inl (xT cx 0, 64, .inl ft) ∧ μ 141 = .inl (xT cx 0, 6, .inl fo) ∧ μ 142 = .inl (xT cx 0, 6, .inl fa) ∧ μ 143 = .inl (xT cx 0, 434, .inl frw) ∧ μ 144 = .inl (xT cx 0, 6, .inl fh) ∧ μ 145 = .inl (xT cx 0, 6, .inl fu) ∧ μ 146 = .inl (xT cx 0, 6, .inl fb) ∧ μ 147 = .inl (xT cx 2, 2, .inl fz) ∧ μ 148 = .inl (xT cx 0, 62, .inl fkp) ∧
  (∀ i, i < Ln (AL S) → f1 i = nI (Lg (AL S) i)) ∧ lv fn 0 (AL S) ∧ (∀ i, i < An S → ft i = nI (At S i)) ∧ nx < 14 ∧ (∀ k, k < Az S → lv frw (31 * ((nx + 13 - k) % 14)) (AP S k)) ∧ (∀ i, i < Ay S → fh i = nI (Ah S i) ∧ fu i = nI (Ao S i) ∧ fb i = nI (Ab S i)) ∧ (∀ j, j < 2 → fz j = b2 ((Ak S).testBit j) ∧ ((Ak S).testBit j = true → lv fkp (31 * j) (AK S j))) ∧ Tr fn
def shp (M L : LN) : Prop := Ln M = Ln L ∧ ∀ i, i < Ln L → Lg M i = Lg L i
def mok (S : AS) : Prop := (∀ k, k < Az S → shp (AP S k) (AL S)) ∧ ∀ j, j < 2 → (Ak S).testBit j = true → shp (AK S j) (AL S)
theorem shp_rf {L : LN} : shp L L := ⟨rfl, fun _ _ => rfl⟩
theorem shp_tr {L M N : LN} (h : shp L M) (h2 : shp M N) : shp L N := ⟨h.1.trans h2.1, fun i hi => (h.2 i (by rw [h2.1]; exact hi)).trans (h2.2 i hi)⟩
theorem shp_sy {L M : LN} (h : shp L M) : shp M L := ⟨h.1.symm, fun i hi => (h.2 i (by rw [← h.1]; exact hi)).symm⟩
theorem shp_hour {L : LN} : shp (hour L) L := ⟨rfl, fun _ _ => rfl⟩
theorem shp_hrs {L : LN} (n : Nat) : shp (hrs n L) L := by
  induction n with
  | zero => exact shp_rf
  | succ n ih => exact shp_tr shp_hour ih
theorem shp_addS {L : LN} {j v : Nat} : shp (addS L j v) L := by
  unfold addS
  split <;> exact ⟨rfl, fun _ _ => rfl⟩
theorem shp_subS {L : LN} {j v : Nat} : shp (subS L j v) L := by
  unfold subS
  split <;> exact ⟨rfl, fun _ _ => rfl⟩
theorem shp_setD {L : LN} {j v : Nat} : shp (setD L j v) L := by
  unfold setD
  split <;> exact ⟨rfl, fun _ _ => rfl⟩
theorem shp_raiseL {L : LN} {j : Nat} : shp (raiseL L j) L := by
  unfold raiseL
  split <;> exact ⟨rfl, fun _ _ => rfl⟩
theorem shp_emptyL {L : LN} {q : Nat} : shp (emptyL L q) L := ⟨rfl, fun _ _ => rfl⟩
theorem shp_failL {L : LN} {q : Nat} : shp (failL L q) L := ⟨rfl, fun _ _ => rfl⟩
theorem modX_V0 {cx : CX} {μ : ME} {S : AS} {Tr : (Nat → Int32) → Prop} (h : modX cx μ S Tr) : mdV cx μ 0 (AL S) := by
  obtain ⟨rh, nx, f1, fn, frd, ft, fo, fa, frw, fh, fu, fb, fz, fkp, g136, g137, g138, g139, g140, g141, g142, g143, g144, g145, g146, g147, g148, hg, hv, -⟩ := h
  exact ⟨rh, _, _, _, _, _, f1, fn, fo, fa, g136, g137, g138, g141, g142, hg, hv⟩
theorem modX_V1 {cx : CX} {μ : ME} {S : AS} {LT : LN} (h : modX cx μ S (fun fn => lv fn 31 LT)) (hs : shp LT (AL S)) : mdV cx μ 1 LT := by
  obtain ⟨rh, nx, f1, fn, frd, ft, fo, fa, frw, fh, fu, fb, fz, fkp, g136, g137, g138, g139, g140, g141, g142, g143, g144, g145, g146, g147, g148, hg, hv, ht, hnx, hrw, hse, hkp, hTr⟩ := h
  exact ⟨rh, _, _, _, _, _, f1, fn, fo, fa, by rw [hs.1]; exact g136, g137, g138, g141, g142, fun i hi => by rw [hs.2 i (by rw [← hs.1]; exact hi)]; exact hg i (by rw [← hs.1]; exact hi), hTr⟩
theorem arr_inj {a b : Nat → Int32} {c : ClassId} {n : Nat} (h : (Sum.inl (c, n, Sum.inl a) : va_E) = .inl (c, n, .inl b)) : a = b := by
  injection h with h
  injection h with h1 h2
  injection h2 with h3 h4
  injection h4
theorem modX_lv1 {cx : CX} {μ μ1 : ME} {S : AS} {Tr : (Nat → Int32) → Prop} {M : LN} (h : modX cx μ S Tr) (hn : Ln (AL S) ≤ 6) (hp : lvP cx μ 1 M μ1) : modX cx μ1 S (fun fn => lv fn 31 M) := by
  obtain ⟨rh, nx, f1, fn, frd, ft, fo, fa, frw, fh, fu, fb, fz, fkp, g136, g137, g138, g139, g140, g141, g142, g143, g144, g145, g146, g147, g148, hg, hv, ht, hnx, hrw, hse, hkp, hTr⟩ := h
  obtain ⟨fn0, fn1, fo1, fa1, p0, p1, p2, p3, p4, p5, p6⟩ := hp
  have e0 : fn0 = fn := arr_inj (p0.symm.trans g138)
  subst e0
  exact ⟨rh, nx, f1, fn1, frd, ft, fo1, fa1, frw, fh, fu, fb, fz, fkp, (p4 _ (by omega) (by omega) (by omega)).trans g136, (p4 _ (by omega) (by omega) (by omega)).trans g137, p1, (p4 _ (by omega) (by omega) (by omega)).trans g139, (p4 _ (by omega) (by omega) (by omega)).trans g140, p2, p3, (p4 _ (by omega) (by omega) (by omega)).trans g143, (p4 _ (by omega) (by omega) (by omega)).trans g144, (p4 _ (by omega) (by omega) (by omega)).trans g145, (p4 _ (by omega) (by omega) (by omega)).trans g146, (p4 _ (by omega) (by omega) (by omega)).trans g147, (p4 _ (by omega) (by omega) (by omega)).trans g148, hg, lv_cong hv hn (fun i h1 h2 => p5 i (by omega)), ht, hnx, hrw, hse, hkp, p6⟩
theorem modX_lv0 {cx : CX} {μ μ1 : ME} {S : AS} {Tr : (Nat → Int32) → Prop} {M : LN} (h : modX cx μ S Tr) (hs : shp M (AL S)) (hp : lvP cx μ 0 M μ1) : modX cx μ1 (uL S M (AP S) (Az S)) (fun _ => True) := by
  obtain ⟨rh, nx, f1, fn, frd, ft, fo, fa, frw, fh, fu, fb, fz, fkp, g136, g137, g138, g139, g140, g141, g142, g143, g144, g145, g146, g147, g148, hg, hv, ht, hnx, hrw, hse, hkp, hTr⟩ := h
  obtain ⟨fn0, fn1, fo1, fa1, p0, p1, p2, p3, p4, p5, p6⟩ := hp
  refine ⟨rh, nx, f1, fn1, frd, ft, fo1, fa1, frw, fh, fu, fb, fz, fkp, ?_, (p4 _ (by omega) (by omega) (by omega)).trans g137, p1, (p4 _ (by omega) (by omega) (by omega)).trans g139, (p4 _ (by omega) (by omega) (by omega)).trans g140, p2, p3, (p4 _ (by omega) (by omega) (by omega)).trans g143, (p4 _ (by omega) (by omega) (by omega)).trans g144, (p4 _ (by omega) (by omega) (by omega)).trans g145, (p4 _ (by omega) (by omega) (by omega)).trans g146, (p4 _ (by omega) (by omega) (by omega)).trans g147, (p4 _ (by omega) (by omega) (by omega)).trans g148, ?_, p6, ht, hnx, hrw, hse, hkp, trivial⟩
  · have q := (p4 136 (by omega) (by omega) (by omega)).trans g136
    rw [← hs.1] at q
    exact q
  · intro i hi
    have hi : i < Ln M := hi
    rw [hs.1] at hi
    rw [hg i hi]
    show _ = nI (Lg M i)
    rw [hs.2 i hi]
/-- the row of numbers is written at the trial's level -/
theorem modX_138 {cx : CX} {μ μ1 : ME} {S : AS} {Tr Tr1 : (Nat → Int32) → Prop} {g f : Nat → Int32} (h : modX cx μ S Tr) (hn : Ln (AL S) ≤ 6) (hg0 : μ 138 = .inl (xT cx 0, 62, .inl g)) (e : μ1 = va_up μ 138 (.inl (xT cx 0, 62, .inl f))) (hf : ∀ i, i < 31 → f i = g i) (hT : Tr1 f) : modX cx μ1 S Tr1 := by
  obtain ⟨rh, nx, f1, fn, frd, ft, fo, fa, frw, fh, fu, fb, fz, fkp, g136, g137, g138, g139, g140, g141, g142, g143, g144, g145, g146, g147, g148, hg, hv, ht, hnx, hrw, hse, hkp, hTr⟩ := h
  have e0 : g = fn := arr_inj (hg0.symm.trans g138)
  subst e0
  have o : ∀ i, ¬ i = 138 → μ1 i = μ i := fun i hi => by rw [e, va_up_ne _ _ hi]
  exact ⟨rh, nx, f1, f, frd, ft, fo, fa, frw, fh, fu, fb, fz, fkp, (o _ (by omega)).trans g136, (o _ (by omega)).trans g137, by rw [e, va_up_self], (o _ (by omega)).trans g139, (o _ (by omega)).trans g140, (o _ (by omega)).trans g141, (o _ (by omega)).trans g142, (o _ (by omega)).trans g143, (o _ (by omega)).trans g144, (o _ (by omega)).trans g145, (o _ (by omega)).trans g146, (o _ (by omega)).trans g147, (o _ (by omega)).trans g148, hg, lv_cong hv hn (fun i h1 h2 => hf i (by omega)), ht, hnx, hrw, hse, hkp, hT⟩
theorem up_fun {μ μ1 : ME} {k : Nat} {e : va_E} (h : μ1 k = e) (ho : ∀ z, ¬ z = k → μ1 z = μ z) : μ1 = va_up μ k e := by
  funext z
  unfold va_up
  split
  · rename_i a
    rw [a]
    exact h
  · rename_i a
    exact ho z a
theorem modX_tr {cx : CX} {μ : ME} {S : AS} {Tr Tr1 : (Nat → Int32) → Prop} (h : modX cx μ S Tr) (hT : ∀ f, Tr f → Tr1 f) : modX cx μ S Tr1 := by
  obtain ⟨rh, nx, f1, fn, frd, ft, fo, fa, frw, fh, fu, fb, fz, fkp, g136, g137, g138, g139, g140, g141, g142, g143, g144, g145, g146, g147, g148, hg, hv, ht, hnx, hrw, hse, hkp, hTr⟩ := h
  exact ⟨rh, nx, f1, fn, frd, ft, fo, fa, frw, fh, fu, fb, fz, fkp, g136, g137, g138, g139, g140, g141, g142, g143, g144, g145, g146, g147, g148, hg, hv, ht, hnx, hrw, hse, hkp, hT _ hTr⟩
theorem lvP_off {cx : CX} {μ μ1 : ME} {lvl : Nat} {M : LN} (h : lvP cx μ lvl M μ1) : off 136 13 μ μ1 := by
  obtain ⟨fn0, fn1, fo1, fa1, p0, p1, p2, p3, p4, p5, p6⟩ := h
  exact fun i hi => p4 i (by omega) (by omega) (by omega)
theorem lv_s {f : Nat → Int32} {o j v : Nat} {L : LN} (h : lv f o L) (hn : Ln L ≤ 6) (hj : j < Ln L) : lv (upd f (o + 6 + j) (nI v)) o (sets L (va_up (Ls L) j v)) := by
  refine ⟨fun t ht => ?_, ?_⟩
  · have ht : t < Ln L := ht
    have a := h.1 t ht
    refine ⟨by rw [upd_ne (by omega)]; exact a.1, ?_, by rw [upd_ne (by omega)]; exact a.2.2.1, by rw [upd_ne (by omega)]; exact a.2.2.2.1, by rw [upd_ne (by omega)]; exact a.2.2.2.2⟩
    show _ = nI (va_up (Ls L) j v t)
    by_cases e : t = j
    · subst e
      rw [upd_eq rfl, va_up_self]
    · rw [upd_ne (by omega), va_up_ne _ _ e]
      exact a.2.1
  · rw [upd_ne (by omega)]
    exact h.2
theorem lv_dd {f : Nat → Int32} {o j v : Nat} {L : LN} (h : lv f o L) (hn : Ln L ≤ 6) (hj : j < Ln L) : lv (upd f (o + 12 + j) (nI v)) o (setd L (va_up (Ld L) j v)) := by
  refine ⟨fun t ht => ?_, ?_⟩
  · have ht : t < Ln L := ht
    have a := h.1 t ht
    refine ⟨by rw [upd_ne (by omega)]; exact a.1, by rw [upd_ne (by omega)]; exact a.2.1, ?_, by rw [upd_ne (by omega)]; exact a.2.2.2.1, by rw [upd_ne (by omega)]; exact a.2.2.2.2⟩
    show _ = nI (va_up (Ld L) j v t)
    by_cases e : t = j
    · subst e
      rw [upd_eq rfl, va_up_self]
    · rw [upd_ne (by omega), va_up_ne _ _ e]
      exact a.2.2.1
  · rw [upd_ne (by omega)]
    exact h.2
theorem lv_same {f : Nat → Int32} {o q : Nat} {x : Int32} {L : LN} (h : lv f o L) (e : f q = x) : lv (upd f q x) o L := by
  have : upd f q x = f := by
    funext i
    unfold upd
    split
    · rename_i z; rw [z, e]
    · rfl
  rw [this]
  exact h
def orF (L : LN) : Nat → Nat
  | 0 => 0
  | i + 1 => orF L i ||| hF (hrs i L)
theorem orF_lt {L : LN} (hn : Ln L ≤ 6) (n : Nat) : orF L n < 64 := by
  induction n with
  | zero => show 0 < 64; decide
  | succ n ih => exact Nat.or_lt_two_pow (n := 6) ih (hF_lt (by rw [hrs_n]; exact hn))
theorem or_eq0 {a b : Nat} : a ||| b = 0 ↔ a = 0 ∧ b = 0 := by
  constructor
  · intro h
    constructor
    · apply Nat.eq_of_testBit_eq
      intro i
      have := congrArg (fun z => Nat.testBit z i) h
      simp only [Nat.testBit_or, Nat.zero_testBit, Bool.or_eq_false_iff] at this
      rw [this.1, Nat.zero_testBit]
    · apply Nat.eq_of_testBit_eq
      intro i
      have := congrArg (fun z => Nat.testBit z i) h
      simp only [Nat.testBit_or, Nat.zero_testBit, Bool.or_eq_false_iff] at this
      rw [this.2, Nat.zero_testBit]
  · intro h
    rw [h.1, h.2]
    rfl
theorem orF_calm (L : LN) (n : Nat) : orF L n = 0 ↔ calm n L = true := by
  induction n with
  | zero => exact ⟨fun _ => rfl, fun _ => rfl⟩
  | succ n ih =>
    show orF L n ||| hF (hrs n L) = 0 ↔ (calm n L && decide (hF (hrs n L) = 0)) = true
    rw [or_eq0, Bool.and_eq_true, decide_eq_true_eq, ih]

set_option maxHeartbeats 4000000 in
set_option maxRecDepth 100000 in
theorem m_layTrial {cx : CX} (hI : xI cx) (l : Launch) {μ : ME} {S : AS} {B : Nat} {Tr : (Nat → Int32) → Prop} (hN : 149 ≤ xN cx) (hX : modX cx μ S Tr) (hA : aok S B) (hMo : mok S) (hB : B < 800000) : MT cx l yX5_layTrial cX5_layTrial 2 none 0 0 [.ref (xa cx 136)] μ (Qv cx (fun μ1 => modX cx μ1 S (fun fn => lv fn 31 (AL S)) ∧ off 136 13 μ μ1)) := by
  refine mt_of hI (by decide) (Nat.le_of_ble_eq_true rfl) ?_
  intro p e s m below meth c ls F hr hlk hW hl
  have hx := F.1.1
  have hb := F.1.2.1
  have hts := F.1.2.2.2.2
  obtain ⟨rh, nx, f1, fn, frd, ft, fo, fa, frw, fh, fu, fb, fz, fkp, g136, g137, g138, g139, g140, g141, g142, g143, g144, g145, g146, g147, g148, hg, hv, ht, hnx, hrw, hse, hkp, hTr⟩ := id hX
  have hk := hA.2.1
  have hn6 := hk.1
  have hk4 := hk.2.2.2.1
  have hU := lok_U hk
  have hV0 := modX_V0 hX
  have hl : lv_has ls 2 [(0, .ref (xa cx 136))] := hl
  refine lv_iconst (v := nI 0) hx hb dX5_layTrial_0 (by decide) ?_
  refine lv_istore_n (lv' := [(1, .int (nI 0)), (0, .ref (xa cx 136))]) hx hb dX5_layTrial_1 rfl hl (by decide) rfl (fun ls hl => ?_)
  have LOOP : ∀ (d i : Nat) (q : Nat → Int32) (μ1 : ME) (H : Heap) (locs : List Loc) (ls : Array Slot), i + d = 31 → (μ1 138 = .inl (xT cx 0, 62, .inl q)) → (∀ z, ¬ z = 138 → μ1 z = μ z) → (∀ z, z < 31 → q z = fn z) → (∀ z, z < i → q (31 + z) = fn z) → St cx s μ1 H locs → lv_has ls 2 [(0, .ref (xa cx 136)), (1, .int (nI i))] → W p l e { frames := 0, cells := 0, slots := 0, locals := 0 } s m [.ref (xa cx 136)].toArray below meth c H locs 0 0 (MQ below (Qv cx (fun μ1 => modX cx μ1 S (fun fn => lv fn 31 (AL S)) ∧ off 136 13 μ μ1)) [.ref (xa cx 136)].toArray s 0 0 (xA cx)) (F0 m 2 ls []) := by
    intro d
    induction d with
    | zero =>
      intro i q μ1 H locs ls hid hq hqo hq0 hq1 hW hl
      have k136 := (hqo 136 (by omega)).trans g136
      refine lv_iload_n hx hb dX5_layTrial_2 rfl (lv_at hl 1 rfl) ?_
      refine lv_bipush (v := nI 31) hx hb dX5_layTrial_3 (by decide) ?_
      refine nv_cge (tgt := 29) F (by omega) (by omega) dX5_layTrial_5 (by decide) (fun c_1 => ?_) (fun c_1 => ?_)
      · skip
        exact rt_v F hr hlk hW ⟨modX_138 (f := q) hX hn6 g138 (up_fun hq hqo) hq0 (lv_move hv hn6 (fun z hz => by rw [hq1 z (by omega), Nat.zero_add])), fun z hz => hqo z (by omega)⟩ dX5_layTrial_29
      · skip
        exact absurd c_1 (by omega)
    | succ d ih =>
      intro i q μ1 H locs ls hid hq hqo hq0 hq1 hW hl
      have k136 := (hqo 136 (by omega)).trans g136
      refine lv_iload_n hx hb dX5_layTrial_2 rfl (lv_at hl 1 rfl) ?_
      refine lv_bipush (v := nI 31) hx hb dX5_layTrial_3 (by decide) ?_
      refine nv_cge (tgt := 29) F (by omega) (by omega) dX5_layTrial_5 (by decide) (fun c_2 => ?_) (fun c_2 => ?_)
      · skip
        exact absurd c_2 (by omega)
      · skip
        refine lv_aload_n hx hb dX5_layTrial_8 rfl (lv_at hl 0 rfl) ?_
        refine nv_get F hW (by omega) k136 rfl iX5 2 (by decide) tw_631 rfl dX5_layTrial_9 ?_
        refine lv_bipush (v := nI 31) hx hb dX5_layTrial_12 (by decide) ?_
        refine lv_iload_n hx hb dX5_layTrial_14 rfl (lv_at hl 1 rfl) ?_
        refine nv_add F dX5_layTrial_15 ?_
        refine lv_aload_n hx hb dX5_layTrial_16 rfl (lv_at hl 0 rfl) ?_
        refine nv_get F hW (by omega) k136 rfl iX5 2 (by decide) tw_631 rfl dX5_layTrial_17 ?_
        refine lv_iload_n hx hb dX5_layTrial_20 rfl (lv_at hl 1 rfl) ?_
        refine nv_ialdN (x := ((fn i))) F hW (by omega) hq (by omega) (by decide) (hq0 i (by omega)) dX5_layTrial_21 ?_
        refine nv_iastN F hW (by omega) hq (by omega) (by decide) dX5_layTrial_22 (fun H locs hW => ?_)
        obtain ⟨μ3, eμ3⟩ : ∃ zz9 : ME, zz9 = va_up μ1 138 (.inl (xT cx 0, 62, .inl (upd q (31 + i) ((fn i))))) := ⟨_, rfl⟩
        have hW : St cx s μ3 H locs := by rw [eμ3]; exact hW
        have h136_3 := (congrFun eμ3 136).trans ((va_up_ne _ _ (by omega)).trans k136)
        have h138_3 : μ3 138 = .inl (xT cx 0, 62, .inl (upd q (31 + i) ((fn i)))) := by rw [eμ3, va_up_self]
        refine lv_iinc (v := ((nI (i + 1)))) (lv' := [(1, .int (nI (i + 1))), (0, .ref (xa cx 136))]) hx hb dX5_layTrial_23 hl (k := 1) rfl (nI_add _ _) (by decide) rfl (fun ls hl => ?_)
        refine lv_goto (tgt := 2) hx hb dX5_layTrial_26 (by decide) ?_
        exact ih (i + 1) _ μ3 _ _ _ (by omega) h138_3 (fun z hz => ((congrFun eμ3 z).trans (va_up_ne _ _ hz)).trans (hqo z hz)) (fun z hz => by rw [upd_ne (by omega)]; exact hq0 z hz) (fun z hz => (Nat.lt_or_ge z i).elim (fun a => by rw [upd_ne (by omega)]; exact hq1 z a) (fun a => by rw [upd_eq (by omega), show z = i by omega])) hW (lv_sub hl [1, 0] rfl)
  exact LOOP 31 0 fn μ _ _ _ (by omega) g138 (fun _ _ => rfl) (fun _ _ => rfl) (fun z hz => absurd hz (by omega)) hW (lv_sub hl [1, 0] rfl)

set_option maxHeartbeats 4000000 in
set_option maxRecDepth 100000 in
theorem m_goOn {cx : CX} (hI : xI cx) (l : Launch) {μ : ME} {S : AS} {B : Nat} {LT : LN} {BT : Nat} (hN : 149 ≤ xN cx) (hX : modX cx μ S (fun fn => lv fn 31 LT)) (hA : aok S B) (hMo : mok S) (hB : B < 800000) (hs : shp LT (AL S)) (hkT : lok LT BT) (hBT : BT < 900000) (n : Nat) (hn : n ≤ 100) : MT cx l yX5_goOn cX5_goOn 4 (some .int) 4 95 [.ref (xa cx 136), .int (nI n)] μ (Ei cx (nI (orF LT n)) (fun μ1 => modX cx μ1 S (fun fn => lv fn 31 (hrs n LT)) ∧ off 136 13 μ μ1)) := by
  refine mt_of hI (by decide) (Nat.le_of_ble_eq_true rfl) ?_
  intro p e s m below meth c ls F hr hlk hW hl
  have hx := F.1.1
  have hb := F.1.2.1
  have hts := F.1.2.2.2.2
  obtain ⟨rh, nx, f1, fn, frd, ft, fo, fa, frw, fh, fu, fb, fz, fkp, g136, g137, g138, g139, g140, g141, g142, g143, g144, g145, g146, g147, g148, hg, hv, ht, hnx, hrw, hse, hkp, hTr⟩ := id hX
  have hk := hA.2.1
  have hn6 := hk.1
  have hk4 := hk.2.2.2.1
  have hU := lok_U hk
  have hV0 := modX_V0 hX
  have hl : lv_has ls 4 [(0, .ref (xa cx 136)), (1, .int (nI n))] := hl
  refine lv_iconst (v := nI 0) hx hb dX5_goOn_0 (by decide) ?_
  refine lv_istore_n (lv' := [(2, .int (nI 0)), (0, .ref (xa cx 136)), (1, .int (nI n))]) hx hb dX5_goOn_1 rfl hl (by decide) rfl (fun ls hl => ?_)
  refine lv_iconst (v := nI 0) hx hb dX5_goOn_2 (by decide) ?_
  refine lv_istore_n (lv' := [(3, .int (nI 0)), (2, .int (nI 0)), (0, .ref (xa cx 136)), (1, .int (nI n))]) hx hb dX5_goOn_3 rfl hl (by decide) rfl (fun ls hl => ?_)
  have LOOP : ∀ (d i : Nat)  (μ1 : ME) (H : Heap) (locs : List Loc) (ls : Array Slot), i + d = n → (modX cx μ1 S (fun fn => lv fn 31 (hrs i LT))) → (off 136 13 μ μ1) → St cx s μ1 H locs → lv_has ls 4 [(0, .ref (xa cx 136)), (1, .int (nI n)), (2, .int (nI (orF LT i))), (3, .int (nI i))] → W p l e { frames := 4, cells := 0, slots := 0, locals := 95 } s m [.ref (xa cx 136), .int (nI n)].toArray below meth c H locs 0 0 (MQ below (Ei cx (nI (orF LT n)) (fun μ1 => modX cx μ1 S (fun fn => lv fn 31 (hrs n LT)) ∧ off 136 13 μ μ1)) [.ref (xa cx 136), .int (nI n)].toArray s 0 0 (xA cx)) (F0 m 4 ls []) := by
    intro d
    induction d with
    | zero =>
      intro i  μ1 H locs ls hid hXi hoi hW hl
      have hsi : shp (hrs i LT) (AL S) := shp_tr (shp_hrs i) hs
      have hV1 := modX_V1 hXi hsi
      have hki := lok_hrs hkT i
      obtain ⟨rhi, nxi, f1i, fni, frdi, fti, foi, fai, frwi, fhi, fui, fbi, fzi, fkpi, g136i, g137i, g138i, g139i, g140i, g141i, g142i, g143i, g144i, g145i, g146i, g147i, g148i, hgi, hvi, hti, hnxi, hrwi, hsei, hkpi, hTri⟩ := id hXi
      refine lv_iload_n hx hb dX5_goOn_4 rfl (lv_at hl 3 rfl) ?_
      refine lv_iload_n hx hb dX5_goOn_5 rfl (lv_at hl 1 rfl) ?_
      refine nv_cge (tgt := 23) F (by omega) (by omega) dX5_goOn_6 (by decide) (fun c_1 => ?_) (fun c_1 => ?_)
      · skip
        refine lv_iload_n hx hb dX5_goOn_23 rfl (lv_at hl 2 rfl) ?_
        exact rt_ie F hr hlk hW (by rw [show i = n by omega]) ⟨by rw [show n = i by omega]; exact hXi, hoi⟩ dX5_goOn_24
      · skip
        exact absurd c_1 (by omega)
    | succ d ih =>
      intro i  μ1 H locs ls hid hXi hoi hW hl
      have hsi : shp (hrs i LT) (AL S) := shp_tr (shp_hrs i) hs
      have hV1 := modX_V1 hXi hsi
      have hki := lok_hrs hkT i
      obtain ⟨rhi, nxi, f1i, fni, frdi, fti, foi, fai, frwi, fhi, fui, fbi, fzi, fkpi, g136i, g137i, g138i, g139i, g140i, g141i, g142i, g143i, g144i, g145i, g146i, g147i, g148i, hgi, hvi, hti, hnxi, hrwi, hsei, hkpi, hTri⟩ := id hXi
      refine lv_iload_n hx hb dX5_goOn_4 rfl (lv_at hl 3 rfl) ?_
      refine lv_iload_n hx hb dX5_goOn_5 rfl (lv_at hl 1 rfl) ?_
      refine nv_cge (tgt := 23) F (by omega) (by omega) dX5_goOn_6 (by decide) (fun c_2 => ?_) (fun c_2 => ?_)
      · skip
        exact absurd c_2 (by omega)
      · skip
        refine lv_iload_n hx hb dX5_goOn_9 rfl (lv_at hl 2 rfl) ?_
        refine lv_aload_n hx hb dX5_goOn_10 rfl (lv_at hl 0 rfl) ?_
        refine lv_iconst (v := nI 1) hx hb dX5_goOn_11 (by decide) ?_
        refine cl_ie (cl_run (rest := [.int (nI (orF LT i))]) F hW e_X5_111 (m_hourOn hI l hN hV1 hki (by omega) (by omega)) ⟨Nat.le_of_ble_eq_true rfl, Nat.le_of_ble_eq_true rfl⟩ (by omega) g136i rfl rfl rfl hl (Nat.le_of_ble_eq_true rfl) dX5_goOn_12 ⟨Nat.zero_le _, Nat.zero_le _⟩) hW (fun μ3 H locs q_3 hW => ?_)
        have hXn := modX_lv1 hXi hn6 q_3
        have hon := lvP_off q_3
        refine nv_or F dX5_goOn_15 ?_
        refine lv_istore_n (lv' := [(2, .int (nI ((orF LT i) ||| (hF (hrs i LT))))), (0, .ref (xa cx 136)), (1, .int (nI n)), (3, .int (nI i))]) hx hb dX5_goOn_16 rfl hl (by decide) rfl (fun ls hl => ?_)
        refine lv_iinc (v := ((nI (i + 1)))) (lv' := [(3, .int (nI (i + 1))), (2, .int (nI ((orF LT i) ||| (hF (hrs i LT))))), (0, .ref (xa cx 136)), (1, .int (nI n))]) hx hb dX5_goOn_17 hl (k := 3) rfl (nI_add _ _) (by decide) rfl (fun ls hl => ?_)
        refine lv_goto (tgt := 4) hx hb dX5_goOn_20 (by decide) ?_
        exact ih (i + 1) μ3 _ _ _ (by omega) hXn (off_tr hoi hon) hW (lv_sub hl [2, 3, 1, 0] rfl)
  exact LOOP n 0 μ _ _ _ (by omega) hX off_rf hW (lv_sub hl [2, 3, 1, 0] rfl)
