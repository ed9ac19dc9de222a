theorem lok_L0 (B : Nat) : lok L0 B := ⟨by decide, by decide, Nat.zero_le _, fun i hi => absurd (show i < 0 from hi) (by omega), fun i hi => absurd (show (decide (i < 0) && Nat.testBit 0 i) = true from hi) (by simp), fun _ _ => rfl, Nat.zero_le _⟩
theorem aok_S0 (B : Nat) : aok S0 B := ⟨⟨Nat.zero_le _, fun i hi => absurd (show i < 0 from hi) (by omega)⟩, lok_L0 B, ⟨Nat.zero_le _, fun k hk => absurd (show k < 0 from hk) (by omega)⟩, ⟨Nat.zero_le _, fun i hi => absurd (show i < 0 from hi) (by omega)⟩, by decide, fun j _ _ => lok_L0 B⟩
theorem mok_S0 : mok S0 := ⟨fun k hk => absurd (show k < 0 from hk) (by omega), fun j _ _ => shp_rf⟩
theorem modX0 {D : va_G} {T : Nat → ClassId} {h0 : Nat} {μ1 : ME} (h : μ1 136 = .inr (5, [.int (nI 0), .ref (h0 + (136 + 1)), .ref (h0 + (136 + 2)), .ref (h0 + (136 + 3)), .int (nI 0), .ref (h0 + (136 + 4)), .int (nI 0), .ref (h0 + (136 + 5)), .ref (h0 + (136 + 6)), .int (nI 0), .int (nI 0), .ref (h0 + (136 + 7)), .int (nI 0), .ref (h0 + (136 + 8)), .ref (h0 + (136 + 9)), .ref (h0 + (136 + 10)), .long 0, .ref (h0 + (136 + 11)), .ref (h0 + (136 + 12))]) ∧ μ1 (136 + 1) = .inl (T 0, 6, .inl (fun _ => nI 0)) ∧ μ1 (136 + 2) = .inl (T 0, 62, .inl (fun _ => nI 0)) ∧ μ1 (136 + 3) = .inl (T 0, 24, .inl (fun _ => nI 0)) ∧ μ1 (136 + 4) = .inl (T 0, 64, .inl (fun _ => nI 0)) ∧ μ1 (136 + 5) = .inl (T 0, 6, .inl (fun _ => nI 0)) ∧ μ1 (136 + 6) = .inl (T 0, 6, .inl (fun _ => nI 0)) ∧ μ1 (136 + 7) = .inl (T 0, 434, .inl (fun _ => nI 0)) ∧ μ1 (136 + 8) = .inl (T 0, 6, .inl (fun _ => nI 0)) ∧ μ1 (136 + 9) = .inl (T 0, 6, .inl (fun _ => nI 0)) ∧ μ1 (136 + 10) = .inl (T 0, 6, .inl (fun _ => nI 0)) ∧ μ1 (136 + 11) = .inl (T 2, 2, .inl (fun _ => nI 0)) ∧ μ1 (136 + 12) = .inl (T 0, 62, .inl (fun _ => nI 0))) : modX (gx D T h0 149) μ1 S0 (fun _ => True) := by
  obtain ⟨g136, g137, g138, g139, g140, g141, g142, g143, g144, g145, g146, g147, g148⟩ := h
  exact ⟨nI 0, 0, _, _, _, _, _, _, _, _, _, _, _, _, g136, g137, g138, g139, g140, g141, g142, g143, g144, g145, g146, g147, g148, fun i hi => absurd (show i < 0 from hi) (by omega), ⟨fun i hi => absurd (show i < 0 from hi) (by omega), rfl⟩, fun i hi => absurd (show i < 0 from hi) (by omega), by decide, fun k hk => absurd (show k < 0 from hk) (by omega), fun i hi => absurd (show i < 0 from hi) (by omega), fun j hj => ⟨by show nI 0 = b2 (Nat.testBit 0 j); rw [Nat.zero_testBit]; rfl, fun q => absurd (show Nat.testBit 0 j = true from q) (by simp)⟩, trivial⟩
theorem modX_off {cx : CX} {μ μ1 : ME} {S : AS} {Tr : (Nat → Int32) → Prop} (h : modX cx μ S Tr) (ho : off 0 136 μ μ1) : modX cx μ1 S Tr := by
  obtain ⟨rh, nx, f1, fn, frd, ft, fo, fa, frw, fh, fu, fb, fz, fkp, g136, g137, g138, g139, g140, g141, g142, g143, g144, g145, g146, g147, g148, hr⟩ := h
  exact ⟨rh, nx, f1, fn, frd, ft, fo, fa, frw, fh, fu, fb, fz, fkp, (ho _ (by omega)).trans g136, (ho _ (by omega)).trans g137, (ho _ (by omega)).trans g138, (ho _ (by omega)).trans g139, (ho _ (by omega)).trans g140, (ho _ (by omega)).trans g141, (ho _ (by omega)).trans g142, (ho _ (by omega)).trans g143, (ho _ (by omega)).trans g144, (ho _ (by omega)).trans g145, (ho _ (by omega)).trans g146, (ho _ (by omega)).trans g147, (ho _ (by omega)).trans g148, hr⟩
theorem mainR_off {cx : CX} {μ μ1 : ME} {S : AS} (h : mainR cx μ S) (ho : off 136 13 μ μ1) : mainR cx μ1 S := by
  obtain ⟨h0, h1, h2, ⟨LT, h3⟩, h4, h5, h6⟩ := h
  exact ⟨(ho 0 (by omega)).trans h0, textR_off h1 ho (by omega), laneR_off h2 ho (by omega), ⟨LT, laneR_off h3 ho (by omega)⟩, pastR_off h4 ho (by omega), seenR_off h5 ho (by omega), slotR_off h6 ho (by omega)⟩
theorem aok_mono {S : AS} {B C : Nat} (h : aok S B) (hle : B ≤ C) : aok S C := ⟨h.1, lok_mono h.2.1 hle, ⟨h.2.2.1.1, fun k hk => lok_mono (h.2.2.1.2 k hk) hle⟩, h.2.2.2.1, h.2.2.2.2.1, fun j hj q => lok_mono (h.2.2.2.2.2 j hj q) hle⟩
/-- a state that may come behind one of bound B -/
def nxt (S : AS) (B : Nat) : Prop := aok S (B + 600) ∧ mok S
theorem n_same {S : AS} {B : Nat} (h : aok S B) (hm : mok S) : nxt S B := ⟨aok_mono h (by omega), hm⟩
theorem n_push {S : AS} {B : Nat} {M : LN} (h : aok S B) (hm : mok S) (hM : lok M (B + 600)) (hs : shp M (AL S)) : nxt (uL S M (pushP (AP S) (AL S)) (min (Az S + 1) 14)) B := by
  have hz := h.2.2.1.1
  refine ⟨⟨h.1, hM, ⟨by show min (Az S + 1) 14 ≤ 14; omega, fun k hk => ?_⟩, h.2.2.2.1, h.2.2.2.2.1, fun j hj q => lok_mono (h.2.2.2.2.2 j hj q) (by omega)⟩, fun k hk => ?_, fun j hj q => shp_tr (hm.2 j hj q) (shp_sy hs)⟩
  · have hk : k < min (Az S + 1) 14 := hk
    show lok (if k = 0 then AL S else AP S (k - 1)) (B + 600)
    split
    · exact lok_mono h.2.1 (by omega)
    · exact lok_mono (h.2.2.1.2 (k - 1) (by omega)) (by omega)
  · have hk : k < min (Az S + 1) 14 := hk
    show shp (if k = 0 then AL S else AP S (k - 1)) M
    split
    · exact shp_sy hs
    · exact shp_tr (hm.1 (k - 1) (by omega)) (shp_sy hs)
theorem n_hour {S : AS} {B : Nat} (h : aok S B) (hm : mok S) : nxt (uL S (hour (AL S)) (pushP (AP S) (AL S)) (min (Az S + 1) 14)) B := n_push h hm (lok_hour h.2.1) shp_hour
theorem n_bring {S : AS} {B : Nat} (h : aok S B) (hm : mok S) (a v : Int32) : nxt (s_bring S a v) B := by
  unfold s_bring
  split
  · exact n_push h hm (lok_mono (lok_addS h.2.1 _ _) (by omega)) shp_addS
  · exact n_same h hm
theorem n_take {S : AS} {B : Nat} (h : aok S B) (hm : mok S) (a v : Int32) : nxt (s_take S a v) B := by
  unfold s_take
  split
  · exact n_push h hm (lok_mono (lok_subS h.2.1 _ _) (by omega)) shp_subS
  · exact n_same h hm
theorem n_deed {S : AS} {B : Nat} (h : aok S B) (hm : mok S) (a v : Int32) : nxt (s_deed S a v) B := by
  unfold s_deed
  split
  · exact n_push h hm (lok_mono (lok_setD h.2.1 _ _) (by omega)) shp_setD
  · exact n_same h hm
theorem n_build {S : AS} {B : Nat} (h : aok S B) (hm : mok S) (a : Int32) : nxt (s_build S a) B := by
  unfold s_build
  split
  · exact n_push h hm (lok_raiseL h.2.1 _) shp_raiseL
  · exact n_same h hm
theorem n_undo {S : AS} {B : Nat} (h : aok S B) (hm : mok S) : nxt (s_undo S) B := by
  unfold s_undo
  split
  · exact n_same h hm
  · rename_i hz
    have h14 := h.2.2.1.1
    have h0 := hm.1 0 (by omega)
    refine ⟨⟨h.1, lok_mono (h.2.2.1.2 0 (by omega)) (by omega), ⟨by show Az S - 1 ≤ 14; omega, fun k hk => ?_⟩, h.2.2.2.1, h.2.2.2.2.1, fun j hj q => lok_mono (h.2.2.2.2.2 j hj q) (by omega)⟩, fun k hk => ?_, fun j hj q => shp_tr (hm.2 j hj q) (shp_sy h0)⟩
    · have hk : k < Az S - 1 := hk
      exact lok_mono (h.2.2.1.2 (k + 1) (by omega)) (by omega)
    · have hk : k < Az S - 1 := hk
      exact shp_tr (hm.1 (k + 1) (by omega)) (shp_sy h0)
theorem n_write {S : AS} {B : Nat} (h : aok S B) (hm : mok S) (x : Int32) : nxt (s_write S x) B := by
  unfold s_write
  split
  · rename_i hc
    rw [Bool.and_eq_true, decide_eq_true_eq] at hc
    obtain ⟨j, hj, rfl⟩ := inR_of hc.1 (by decide)
    rw [nI_clamp (by omega)]
    have a := aok_mono h (show B ≤ B + 600 by omega)
    exact ⟨⟨⟨by show An S + 1 ≤ 64; omega, tok_up h.1 (by omega)⟩, a.2⟩, hm⟩
  · exact n_same h hm
theorem n_wipe {S : AS} {B : Nat} (h : aok S B) (hm : mok S) : nxt (uT S (At S) 0) B := ⟨⟨⟨Nat.zero_le _, fun i hi => absurd (show i < 0 from hi) (by omega)⟩, (aok_mono h (show B ≤ B + 600 by omega)).2⟩, hm⟩
theorem n_lane {S : AS} {B : Nat} (h : aok S B) (hm : mok S) : nxt (s_lane S) B := by
  unfold s_lane
  split
  · rename_i hc
    have hf := fault_none hc h.1.1
    exact ⟨⟨h.1, lok_mono (lok_readL hf.1 hf.2) (by omega), ⟨Nat.zero_le _, fun k hk => absurd (show k < 0 from hk) (by omega)⟩, h.2.2.2.1, (show 0 < 4 by decide), fun j hj q => absurd (show Nat.testBit 0 j = true from q) (by simp)⟩, fun k hk => absurd (show k < 0 from hk) (by omega), fun j hj q => absurd (show Nat.testBit 0 j = true from q) (by simp)⟩
  · exact n_same h hm
theorem n_see {S : AS} {B : Nat} (h : aok S B) (hm : mok S) (a o t : Int32) : nxt (s_see S a o t) B := by
  unfold s_see
  split
  · rename_i hc
    rw [Bool.and_eq_true, Bool.and_eq_true, Bool.and_eq_true, decide_eq_true_eq] at hc
    obtain ⟨⟨⟨c1, c2⟩, c3⟩, c4⟩ := hc
    obtain ⟨u, hu1, hu9, rfl⟩ := carI_of c1
    obtain ⟨e6, he6, rfl⟩ := inR_of c2 (by decide)
    obtain ⟨t1, ht1, rfl⟩ : ∃ z, z ≤ 1 ∧ t = nI z := by
      rcases halI_of c3 with q | q
      · exact ⟨0, by omega, q⟩
      · exact ⟨1, by omega, q⟩
    rw [nI_clamp (by omega), nI_clamp (by omega), nI_clamp (by omega)]
    have am := aok_mono h (show B ≤ B + 600 by omega)
    refine ⟨⟨am.1, am.2.1, am.2.2.1, ⟨by show Ay S + 1 ≤ 6; omega, fun i hi => ?_⟩, am.2.2.2.2⟩, hm⟩
    have hi : i < Ay S + 1 := hi
    show va_up (Ah S) (Ay S) u i ≤ 9 ∧ va_up (Ao S) (Ay S) e6 i ≤ 5 ∧ va_up (Ab S) (Ay S) t1 i ≤ 1
    by_cases e : i = Ay S
    · rw [e, va_up_self, va_up_self, va_up_self]
      omega
    · rw [va_up_ne _ _ e, va_up_ne _ _ e, va_up_ne _ _ e]
      exact h.2.2.2.1.2 i (by omega)
  · exact n_same h hm
theorem n_unsee {S : AS} {B : Nat} (h : aok S B) (hm : mok S) : nxt (uS S (Ah S) (Ao S) (Ab S) 0) B := by
  have am := aok_mono h (show B ≤ B + 600 by omega)
  exact ⟨⟨am.1, am.2.1, am.2.2.1, ⟨Nat.zero_le _, fun i hi => absurd (show i < 0 from hi) (by omega)⟩, am.2.2.2.2⟩, hm⟩
theorem n_seed {S : AS} {B : Nat} (h : aok S B) (hm : mok S) (d : Int64) : nxt (uD S d) B := ⟨aok_mono h (by omega), hm⟩
theorem n_years {S : AS} {B : Nat} (h : aok S B) (hm : mok S) (m : Int32) : nxt (s_years S m) B := by
  unfold s_years
  split
  · exact n_seed h hm _
  · exact n_same h hm
theorem n_keep {S : AS} {B : Nat} (h : aok S B) (hm : mok S) (q : Int32) : nxt (s_keep S q) B := by
  unfold s_keep
  split
  · rename_i hc
    obtain ⟨j, hj, rfl⟩ := inR_of hc (by decide)
    rw [nI_clamp (by omega)]
    have am := aok_mono h (show B ≤ B + 600 by omega)
    refine ⟨⟨am.1, am.2.1, am.2.2.1, am.2.2.2.1, ?_, fun i hi hb => ?_⟩, hm.1, fun i hi hb => ?_⟩
    · exact Nat.or_lt_two_pow (n := 2) h.2.2.2.2.1 (Nat.pow_lt_pow_right (by decide) hj)
    · have hb : (Ak S ||| 2 ^ j).testBit i = true := hb
      show lok (if i = j then AL S else AK S i) (B + 600)
      split
      · exact am.2.1
      · rename_i e
        rw [Nat.testBit_or, Nat.testBit_two_pow, decide_eq_false (fun z => e z.symm), Bool.or_false] at hb
        exact am.2.2.2.2.2 i hi hb
    · have hb : (Ak S ||| 2 ^ j).testBit i = true := hb
      show shp (if i = j then AL S else AK S i) (AL S)
      split
      · exact shp_rf
      · rename_i e
        rw [Nat.testBit_or, Nat.testBit_two_pow, decide_eq_false (fun z => e z.symm), Bool.or_false] at hb
        exact hm.2 i hi hb
  · exact n_same h hm
theorem n_again {S : AS} {B : Nat} (h : aok S B) (hm : mok S) (q : Int32) : nxt (s_again S q) B := by
  unfold s_again
  split
  · rename_i hc
    rw [Bool.and_eq_true] at hc
    obtain ⟨j, hj, rfl⟩ := inR_of hc.1 (by decide)
    rw [nI_clamp (by omega)] at hc ⊢
    have am := aok_mono h (show B ≤ B + 600 by omega)
    exact ⟨⟨am.1, am.2.2.2.2.2 j hj hc.2, ⟨Nat.zero_le _, fun k hk => absurd (show k < 0 from hk) (by omega)⟩, am.2.2.2.1, am.2.2.2.2.1, am.2.2.2.2.2⟩, fun k hk => absurd (show k < 0 from hk) (by omega), fun i hi hb => shp_tr (hm.2 i hi hb) (shp_sy (hm.2 j hj hc.2))⟩
  · exact n_same h hm
