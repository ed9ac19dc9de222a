theorem gvI_nI {k l : Nat} (hl : l < 2147483648) : gvI k (nI l) = nI (gv k l) := by
  unfold gvI gv
  split
  · exact pk_div hl (by decide) (by decide)
  · split
    · split
      · rename_i h
        rw [nI_leI hl (by decide)] at h
        rw [show l - 3 = 0 by omega]
      · rename_i h
        rw [nI_leI hl (by decide)] at h
        exact pk_sub (by omega)
    · split
      · rw [pk_div hl (by decide) (by decide)]
        exact pk_sub (by omega)
      · rfl
theorem pow2_6 {j : Nat} (h : j < 6) : 2 ^ j ≤ 32 := by
  rcases (show j = 0 ∨ j = 1 ∨ j = 2 ∨ j = 3 ∨ j = 4 ∨ j = 5 by omega) with rfl | rfl | rfl | rfl | rfl | rfl <;> decide
theorem pow2_lt {j : Nat} (h : j < 6) : 1 * 2 ^ j < 4294967296 := by
  have := pow2_6 h
  omega
def pop (x : Nat) : Nat := x % 2 + x / 2 % 2 + x / 4 % 2 + x / 8 % 2 + x / 16 % 2 + x / 32 % 2
theorem pop_le (x : Nat) : pop x ≤ 6 := by
  unfold pop
  omega
theorem pop_0 : ∀ x, x < 64 → (pop x = 0 ↔ x = 0) := by decide +kernel
def carI (v : Int32) : Bool := decide (1 ≤ v.toInt ∧ v.toInt ≤ 9)
theorem carI_nI {v : Nat} (hv : v < 2147483648) : carI (nI v) = decide (1 ≤ v ∧ v ≤ 9) := by
  unfold carI
  rw [nI_toInt hv]
  congr 1
  apply propext
  omega
theorem carI_of {v : Int32} (h : carI v = true) : ∃ j : Nat, 1 ≤ j ∧ j ≤ 9 ∧ v = nI j := by
  have h2 := of_decide_eq_true h
  obtain ⟨j, hj, rfl⟩ := vp_in_of (x := v) (n := 10) (vp_in_iff.mpr (by omega)) (by decide)
  rw [nI_toInt (by omega)] at h2
  exact ⟨j, by omega, by omega, rfl⟩
theorem car_lo {v : Int32} (c : v < nI 1) : carI v = false := by
  rw [Int32.lt_iff_toInt_lt, nI_toInt (by decide)] at c
  apply decide_eq_false
  omega
theorem car_hi {v : Int32} (c : nI 9 < v) : carI v = false := by
  rw [Int32.lt_iff_toInt_lt, nI_toInt (by decide)] at c
  apply decide_eq_false
  omega
theorem car_in {v : Int32} (c : ¬ v < nI 1) (d : ¬ nI 9 < v) : carI v = true := by
  rw [Int32.lt_iff_toInt_lt, nI_toInt (by decide)] at c d
  apply decide_eq_true
  omega
/-- on what a house leans, as the class tells it -/
def supI (d j : Nat) : Int32 := if d = 0 then nI j - nI 1 else if d = 1 then nI (j + 1) else if d = 2 then (-2) else (-1)
theorem sup_0 : nI 0 - nI 1 = -1 := by decide
theorem inR_m1 (n : Nat) : inR (-1) n = false := by
  apply decide_eq_false
  have : (-1 : Int32).toInt = -1 := by decide
  omega
theorem inR_m2 (n : Nat) : inR (-2) n = false := by
  apply decide_eq_false
  have : (-2 : Int32).toInt = -2 := by decide
  omega
theorem sup_st {L : LN} {j : Nat} (hj : j < 2147483647) : lstI L (supI (Ld L j) j) = lsst L j := by
  unfold supI lsst
  split
  · by_cases h0 : j = 0
    · subst h0
      rw [sup_0]
      unfold lstI
      rw [inR_m1]
      rfl
    · rw [pk_sub (by omega), lstI_nI (by omega), decide_eq_true (by omega)]
      simp
  · split
    · exact lstI_nI (by omega)
    · split
      · unfold lstI
        rw [inR_m2]
        rfl
      · unfold lstI
        rw [inR_m1]
        rfl
theorem sup_monk {d j : Nat} (hd : d ≤ 3) (hj : j < 2147483647) : supI d j = -2 ↔ d = 2 := by
  unfold supI
  split
  · by_cases h0 : j = 0
    · subst h0
      rw [sup_0]
      constructor
      · intro h; exact absurd h (by decide)
      · intro h; omega
    · rw [pk_sub (by omega)]
      constructor
      · intro h
        have := congrArg Int32.toInt h
        rw [nI_toInt (by omega)] at this
        have e : (-2 : Int32).toInt = -2 := by decide
        omega
      · intro h; omega
  · split
    · constructor
      · intro h
        have := congrArg Int32.toInt h
        rw [nI_toInt (by omega)] at this
        have e : (-2 : Int32).toInt = -2 := by decide
        omega
      · intro h; omega
    · split
      · constructor
        · intro _; assumption
        · intro _; rfl
      · constructor
        · intro h; exact absurd h (by decide)
        · intro h; omega
/-- loads that have come from the first i houses -/
def lpart (L : LN) (i t : Nat) : Nat := Ls L t + (if t - 1 < i ∧ 0 < t ∧ lst L t = true ∧ Ld L (t - 1) = 1 then lgi L (t - 1) else 0) + (if t + 1 < i ∧ lst L t = true ∧ Ld L (t + 1) = 0 then lgi L (t + 1) else 0)
theorem lpart_0 (L : LN) (t : Nat) : lpart L 0 t = Ls L t := by
  unfold lpart
  rw [if_neg (by omega), if_neg (by omega)]
  rfl
theorem lpart_n {L : LN} {t : Nat} (ht : lst L t = true) : lpart L (Ln L) t = lnew L t := by
  have h1 := lst_n ht
  unfold lpart lnew lfrL lfrR
  congr 1
  · congr 1
    by_cases h : 0 < t ∧ Ld L (t - 1) = 1
    · rw [if_pos ⟨by omega, h.1, ht, h.2⟩, if_pos h]
    · rw [if_neg (fun q => h ⟨q.2.1, q.2.2.2⟩), if_neg h]
  · by_cases h : Ld L (t + 1) = 0
    · rw [if_pos h]
      by_cases h2 : t + 1 < Ln L
      · rw [if_pos ⟨h2, ht, h⟩]
      · rw [if_neg (fun q => h2 q.1)]
        unfold lgi
        rw [if_neg]
        intro q
        exact h2 (lst_n q)
    · rw [if_neg h, if_neg (fun q => h q.2.2)]
theorem lpart_stay {L : LN} {i : Nat} (h : lst L i = false ∨ lsst L i = false) (t : Nat) : lpart L (i + 1) t = lpart L i t := by
  unfold lpart
  congr 1
  · congr 1
    by_cases c : t - 1 < i ∧ 0 < t ∧ lst L t = true ∧ Ld L (t - 1) = 1
    · rw [if_pos c, if_pos ⟨by omega, c.2⟩]
    · rw [if_neg c]
      by_cases c2 : t - 1 < i + 1 ∧ 0 < t ∧ lst L t = true ∧ Ld L (t - 1) = 1
      · rw [if_pos c2]
        have e : t - 1 = i := by
          by_cases q : t - 1 < i
          · exact absurd ⟨q, c2.2⟩ c
          · omega
        rw [e]
        rcases h with h | h
        · unfold lgi; rw [h]; rfl
        · exfalso
          unfold lsst at h
          have hd : Ld L i = 1 := by rw [← e]; exact c2.2.2.2
          rw [if_neg (by omega), if_pos hd, show i + 1 = t by omega, c2.2.2.1] at h
          cases h
      · rw [if_neg c2]
  · by_cases c : t + 1 < i ∧ lst L t = true ∧ Ld L (t + 1) = 0
    · rw [if_pos c, if_pos ⟨by omega, c.2⟩]
    · rw [if_neg c]
      by_cases c2 : t + 1 < i + 1 ∧ lst L t = true ∧ Ld L (t + 1) = 0
      · rw [if_pos c2]
        have e : t + 1 = i := by
          by_cases q : t + 1 < i
          · exact absurd ⟨q, c2.2⟩ c
          · omega
        rw [e]
        rcases h with h | h
        · unfold lgi; rw [h]; rfl
        · exfalso
          unfold lsst at h
          have hd : Ld L i = 0 := by rw [← e]; exact c2.2.2
          rw [if_pos hd, show i - 1 = t by omega, c2.2.1, decide_eq_true (by omega)] at h
          cases h
      · rw [if_neg c2]
theorem lpart_go {L : LN} {i t : Nat} (hi : lst L i = true) (ht : lst L t = true) (hs : supI (Ld L i) i = nI t) (h31 : i < 2147483646) (h32 : t < 2147483646) (hd : Ld L i ≤ 3) (q : Nat) : lpart L (i + 1) q = if q = t then lpart L i t + gv (Lk L i) (Ll L i) else lpart L i q := by
  have hg : lgi L i = gv (Lk L i) (Ll L i) := by unfold lgi; rw [if_pos hi]
  have key : (Ld L i = 0 ∧ i = t + 1) ∨ (Ld L i = 1 ∧ t = i + 1) := by
    unfold supI at hs
    split at hs
    · left
      by_cases h0 : i = 0
      · subst h0
        rw [sup_0] at hs
        have := congrArg Int32.toInt hs
        rw [nI_toInt (by omega)] at this
        have e : (-1 : Int32).toInt = -1 := by decide
        omega
      · rw [pk_sub (by omega), nI_eq (by omega) (by omega)] at hs
        exact ⟨by assumption, by omega⟩
    · split at hs
      · right
        rw [nI_eq (by omega) (by omega)] at hs
        exact ⟨by assumption, by omega⟩
      · exfalso
        split at hs
        · have := congrArg Int32.toInt hs
          rw [nI_toInt (by omega)] at this
          have e : (-2 : Int32).toInt = -2 := by decide
          omega
        · have := congrArg Int32.toInt hs
          rw [nI_toInt (by omega)] at this
          have e : (-1 : Int32).toInt = -1 := by decide
          omega
  by_cases hq : q = t
  · subst hq
    rw [if_pos rfl]
    unfold lpart
    rcases key with ⟨k1, k2⟩ | ⟨k1, k2⟩
    · subst k2
      rw [if_pos (c := q + 1 < q + 1 + 1 ∧ lst L q = true ∧ Ld L (q + 1) = 0) ⟨by omega, ht, k1⟩, if_neg (c := q + 1 < q + 1 ∧ lst L q = true ∧ Ld L (q + 1) = 0) (by omega), hg]
      by_cases c : 0 < q ∧ Ld L (q - 1) = 1
      · rw [if_pos ⟨by omega, c.1, ht, c.2⟩, if_pos ⟨by omega, c.1, ht, c.2⟩]
        omega
      · rw [if_neg (fun z => c ⟨z.2.1, z.2.2.2⟩), if_neg (fun z => c ⟨z.2.1, z.2.2.2⟩)]
        all_goals omega
    · subst k2
      rw [if_pos (c := i + 1 - 1 < i + 1 ∧ 0 < i + 1 ∧ lst L (i + 1) = true ∧ Ld L (i + 1 - 1) = 1) ⟨by omega, by omega, ht, by rw [Nat.add_sub_cancel]; exact k1⟩, if_neg (c := i + 1 - 1 < i ∧ 0 < i + 1 ∧ lst L (i + 1) = true ∧ Ld L (i + 1 - 1) = 1) (by omega), Nat.add_sub_cancel, hg, if_neg (by omega), if_neg (by omega)]
      omega
  · rw [if_neg hq]
    unfold lpart
    congr 1
    · congr 1
      by_cases c : t + 1 = q ∧ False
      · exact c.2.elim
      · by_cases e : q - 1 = i ∧ 0 < q
        · have hdn : ¬ Ld L (q - 1) = 1 := by
            rw [e.1]
            intro z
            rcases key with ⟨k1, k2⟩ | ⟨k1, k2⟩
            · omega
            · exact hq (by omega)
          rw [if_neg (fun z => hdn z.2.2.2), if_neg (fun z => hdn z.2.2.2)]
        · by_cases e2 : q - 1 < i ∧ 0 < q ∧ lst L q = true ∧ Ld L (q - 1) = 1
          · rw [if_pos e2, if_pos ⟨by omega, e2.2⟩]
          · rw [if_neg e2, if_neg (fun z => e2 ⟨by have := z.1; have := z.2.1; omega, z.2⟩)]
    · by_cases e : q + 1 = i
      · have hdn : ¬ Ld L (q + 1) = 0 := by
          rw [e]
          intro z
          rcases key with ⟨k1, k2⟩ | ⟨k1, k2⟩
          · exact hq (by omega)
          · omega
        rw [if_neg (fun z => hdn z.2.2), if_neg (fun z => hdn z.2.2)]
      · by_cases e2 : q + 1 < i ∧ lst L q = true ∧ Ld L (q + 1) = 0
        · rw [if_pos e2, if_pos ⟨by omega, e2.2⟩]
        · rw [if_neg e2, if_neg (fun z => e2 ⟨by have := z.1; omega, z.2⟩)]
theorem lst_setl (L : LN) (f : Nat → Nat) : lst (setl L f) = lst L := rfl
theorem lgi_le (L : LN) (h : Nat) : lgi L h ≤ Ll L h := by
  unfold lgi
  split
  · exact gv_le _ _
  · omega
theorem lsum_new {L : LN} (hn : Ln L ≤ 6) (hs : ∀ i, i < Ln L → Ls L i ≤ 99) : Ll (lstep L) 0 + Ll (lstep L) 1 + Ll (lstep L) 2 + Ll (lstep L) 3 + Ll (lstep L) 4 + Ll (lstep L) 5 ≤ Ll L 0 + Ll L 1 + Ll L 2 + Ll L 3 + Ll L 4 + Ll L 5 + 594 := by
  have hb : ∀ h, Ll (lstep L) h ≤ 99 + lfrL L h + lfrR L h := by
    intro h
    show (if lst L h = true then lnew L h else 0) ≤ _
    split
    · rename_i q
      have := hs h (lst_n q)
      unfold lnew
      omega
    · omega
  have key : ∀ e, lfrL L (e + 1) + (if 0 < e then lfrR L (e - 1) else 0) ≤ Ll L e := by
    intro e
    have h1 : lfrL L (e + 1) = if Ld L e = 1 then lgi L e else 0 := by
      unfold lfrL
      simp
    have h2 : (if 0 < e then lfrR L (e - 1) else 0) ≤ if Ld L e = 0 then lgi L e else 0 := by
      split
      · unfold lfrR
        rw [show e - 1 + 1 = e by omega]
        exact Nat.le_refl _
      · omega
    rw [h1]
    have := lgi_le L e
    by_cases d0 : Ld L e = 0
    · rw [if_neg (by omega)]
      rw [if_pos d0] at h2
      omega
    · rw [if_neg d0] at h2
      split <;> omega
  have z0 : lfrL L 0 = 0 := by unfold lfrL; simp
  have z5 : lfrR L 5 = 0 := by
    unfold lfrR lgi
    have : lst L 6 = false := by
      cases q : lst L 6 with
      | false => rfl
      | true => exact absurd (lst_n q) (by omega)
    rw [this]
    simp
  have k0 := key 0
  have k1 := key 1
  have k2 := key 2
  have k3 := key 3
  have k4 := key 4
  have k5 := key 5
  have b0 := hb 0
  have b1 := hb 1
  have b2 := hb 2
  have b3 := hb 3
  have b4 := hb 4
  have b5 := hb 5
  simp at k0 k1 k2 k3 k4 k5
  omega
theorem lok_step {L : LN} {B : Nat} (h : lok L B) : lok (lstep L) (B + 600) := by
  obtain ⟨h1, h2, h3, h4, h5, h6, h7⟩ := h
  refine ⟨h1, h2, by show Lh L ≤ _; omega, h4, h5, fun i hi => ?_, ?_⟩
  · show (if lst L i = true then lnew L i else 0) = 0
    rw [if_neg]
    rw [show lst L i = false from hi]
    decide
  · have := lsum_new h1 (fun i hi => (h4 i hi).2.1)
    omega
theorem lst_hour {L : LN} (i : Nat) : lst (hour L) i = (lst L i && !(hF L).testBit i) := by
  show (decide (i < Ln L) && (bitsOf _ (Ln L)).testBit i) = _
  rw [testBit_bitsOf]
  by_cases h : i < Ln L
  · simp [h]
  · have : lst L i = false := by
      cases q : lst L i with
      | false => rfl
      | true => exact absurd (lst_n q) h
    simp [h, this]
theorem lok_hour {L : LN} {B : Nat} (h : lok L B) : lok (hour L) (B + 600) := by
  have hs := lok_step h
  obtain ⟨h1, h2, h3, h4, h5, h6, h7⟩ := h
  refine ⟨h1, bitsOf_lt _ _, by show Lh L + 1 ≤ _; omega, h4, fun i hi => ?_, fun i hi => ?_, ?_⟩
  · rw [lst_hour] at hi
    simp only [Bool.and_eq_true] at hi
    exact h5 i hi.1
  · rw [lst_hour] at hi
    show (if (hF L).testBit i = true then 0 else Ll (lstep L) i) = 0
    cases q : (hF L).testBit i with
    | true => rfl
    | false =>
      rw [q] at hi
      rw [if_neg (by decide)]
      exact hs.2.2.2.2.2.1 i (show lst L i = false by simpa using hi)
  · have e : ∀ i, Ll (hour L) i ≤ Ll (lstep L) i := by
      intro i
      show (if (hF L).testBit i = true then 0 else Ll (lstep L) i) ≤ _
      split <;> omega
    have := hs.2.2.2.2.2.2
    have e0 := e 0
    have e1 := e 1
    have e2 := e 2
    have e3 := e 3
    have e4 := e 4
    have e5 := e 5
    omega
theorem lok_hrs {L : LN} {B : Nat} (h : lok L B) (n : Nat) : lok (hrs n L) (B + 600 * n) := by
  induction n with
  | zero => exact h
  | succ n ih =>
    have := lok_hour ih
    rw [show B + 600 * (n + 1) = B + 600 * n + 600 by omega]
    exact this
theorem hF_lt {L : LN} (hn : Ln L ≤ 6) : hF L < 64 := Nat.lt_of_lt_of_le (bitsOf_lt _ _) (pow_le64 hn)
def calm : Nat → LN → Bool
  | 0, _ => true
  | n + 1, L => calm n L && decide (hF (hrs n L) = 0)
theorem calm_f {L : LN} {i n : Nat} (h : calm i L = false) (hi : i ≤ n) : calm n L = false := by
  induction n with
  | zero => rw [show i = 0 by omega] at h; exact h
  | succ n ih =>
    by_cases e : i = n + 1
    · rw [← e]; exact h
    · show (calm n L && _) = false
      rw [ih (by omega)]
      rfl
theorem lok_mono {L : LN} {B C : Nat} (h : lok L B) (hBC : B ≤ C) : lok L C := by
  obtain ⟨h1, h2, h3, h4, h5, h6, h7⟩ := h
  exact ⟨h1, h2, by omega, h4, h5, h6, by omega⟩
theorem andnot : ∀ a, a < 64 → ∀ b, b < 64 → nI a &&& (nI b ^^^ (-1)) = nI (bitsOf (fun h => a.testBit h && !b.testBit h) 6) := by decide +kernel
theorem bitsOf_n {P : Nat → Bool} {n : Nat} (hn : n ≤ 6) (h : ∀ i, n ≤ i → P i = false) : bitsOf P 6 = bitsOf P n := by
  apply Nat.eq_of_testBit_eq
  intro i
  rw [testBit_bitsOf, testBit_bitsOf]
  by_cases hi : i < n
  · rw [decide_eq_true hi, decide_eq_true (show i < 6 by omega)]
  · rw [h i (by omega)]
    simp
